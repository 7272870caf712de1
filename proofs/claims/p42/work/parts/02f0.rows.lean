theorem dX4_afterTelling_3 : decode cX4_afterTelling 3 = .ok (.bipush 10, 2) := g_16 10 bX4_afterTelling rfl rfl
theorem dX4_booksKnown_11 : decode cX4_booksKnown 11 = .ok (.if_icmp .ge 27, 3) := g_162 27 bX4_booksKnown rfl rfl
theorem dX4_booksKnown_22 : decode cX4_booksKnown 22 = .ok (.if_icmp .lt 10, 3) := g_161 10 bX4_booksKnown rfl rfl
theorem dX4_booksKnown_32 : decode cX4_booksKnown 32 = .ok (.iinc 4 1, 3) := g_132 1 bX4_booksKnown rfl rfl
theorem dX4_booksKnown_35 : decode cX4_booksKnown 35 = .ok (.goto (-30), 3) := g_167 65506 bX4_booksKnown rfl rfl
theorem dX4_grasped_2 : decode cX4_grasped 2 = .ok (.sipush 1000, 3) := g_17 1000 bX4_grasped rfl rfl
theorem dX4_grasped_7 : decode cX4_grasped 7 = .ok (.sipush 2000, 3) := g_17 2000 bX4_grasped rfl rfl
theorem dX4_groundOf_0 : decode cX4_groundOf 0 = .ok (.sipush 1000, 3) := g_17 1000 bX4_groundOf rfl rfl
theorem dX4_groundOf_10 : decode cX4_groundOf 10 = .ok (.if_icmp .ge 52, 3) := g_162 52 bX4_groundOf rfl rfl
theorem dX4_groundOf_24 : decode cX4_groundOf 24 = .ok (.ifCond .eq 32, 3) := g_153 32 bX4_groundOf rfl rfl
theorem dX4_groundOf_32 : decode cX4_groundOf 32 = .ok (.bipush 8, 2) := g_16 8 bX4_groundOf rfl rfl
theorem dX4_groundOf_40 : decode cX4_groundOf 40 = .ok (.if_icmp .ge 16, 3) := g_162 16 bX4_groundOf rfl rfl
theorem dX4_groundOf_48 : decode cX4_groundOf 48 = .ok (.bipush 8, 2) := g_16 8 bX4_groundOf rfl rfl
theorem dX4_groundOf_56 : decode cX4_groundOf 56 = .ok (.iinc 4 1, 3) := g_132 1 bX4_groundOf rfl rfl
theorem dX4_groundOf_59 : decode cX4_groundOf 59 = .ok (.goto (-52), 3) := g_167 65484 bX4_groundOf rfl rfl
theorem dX4_knows_5 : decode cX4_knows 5 = .ok (.bipush 8, 2) := g_16 8 bX4_knows rfl rfl
theorem dX4_learn_5 : decode cX4_learn 5 = .ok (.bipush 8, 2) := g_16 8 bX4_learn rfl rfl
theorem dX4_mostKnown_11 : decode cX4_mostKnown 11 = .ok (.if_icmp .ge 30, 3) := g_162 30 bX4_mostKnown rfl rfl
theorem dX4_mostKnown_20 : decode cX4_mostKnown 20 = .ok (.ifCond .eq 15, 3) := g_153 15 bX4_mostKnown rfl rfl
theorem dX4_mostKnown_35 : decode cX4_mostKnown 35 = .ok (.iinc 4 1, 3) := g_132 1 bX4_mostKnown rfl rfl
theorem dX4_mostKnown_38 : decode cX4_mostKnown 38 = .ok (.goto (-33), 3) := g_167 65503 bX4_mostKnown rfl rfl
theorem dX4_worthAmong_9 : decode cX4_worthAmong 9 = .ok (.if_icmp .ge 25, 3) := g_162 25 bX4_worthAmong rfl rfl
theorem dX4_worthAmong_28 : decode cX4_worthAmong 28 = .ok (.iinc 3 1, 3) := g_132 1 bX4_worthAmong rfl rfl
theorem dX4_worthAmong_31 : decode cX4_worthAmong 31 = .ok (.goto (-27), 3) := g_167 65509 bX4_worthAmong rfl rfl
theorem dX4_wouldKnow_13 : decode cX4_wouldKnow 13 = .ok (.bipush 10, 2) := g_16 10 bX4_wouldKnow rfl rfl
theorem dX5_has_5 : decode cX5_has 5 = .ok (.ifCond .eq 7, 3) := g_153 7 bX5_has rfl rfl
theorem dX5_has_9 : decode cX5_has 9 = .ok (.goto 4, 3) := g_167 4 bX5_has rfl rfl
theorem dX5_within_3 : decode cX5_within 3 = .ok (.ifCond .lt 14, 3) := g_155 14 bX5_within rfl rfl
theorem dX5_within_10 : decode cX5_within 10 = .ok (.ifCond .gt 7, 3) := g_157 7 bX5_within rfl rfl
theorem dX5_within_14 : decode cX5_within 14 = .ok (.goto 4, 3) := g_167 4 bX5_within rfl rfl
theorem dX4_addBook_24 : decode cX4_addBook 24 = .ok (.sipush 1000, 3) := g_17 1000 bX4_addBook rfl rfl
theorem dX4_bestReader_13 : decode cX4_bestReader 13 = .ok (.if_icmp .ge 79, 3) := g_162 79 bX4_bestReader rfl rfl
theorem dX4_bestReader_25 : decode cX4_bestReader 25 = .ok (.ifCond .eq 7, 3) := g_153 7 bX4_bestReader rfl rfl
theorem dX4_bestReader_29 : decode cX4_bestReader 29 = .ok (.goto 10, 3) := g_167 10 bX4_bestReader rfl rfl
theorem dX4_bestReader_44 : decode cX4_bestReader 44 = .ok (.if_icmp .eq 42, 3) := g_159 42 bX4_bestReader rfl rfl
theorem dX4_bestReader_49 : decode cX4_bestReader 49 = .ok (.if_icmp .eq 31, 3) := g_159 31 bX4_bestReader rfl rfl
theorem dX4_bestReader_55 : decode cX4_bestReader 55 = .ok (.if_icmp .gt 25, 3) := g_163 25 bX4_bestReader rfl rfl
theorem dX4_bestReader_61 : decode cX4_bestReader 61 = .ok (.if_icmp .ne 25, 3) := g_160 25 bX4_bestReader rfl rfl
theorem dX4_bestReader_77 : decode cX4_bestReader 77 = .ok (.if_icmp .ge 9, 3) := g_162 9 bX4_bestReader rfl rfl
theorem dX4_bestReader_86 : decode cX4_bestReader 86 = .ok (.iinc 4 1, 3) := g_132 1 bX4_bestReader rfl rfl
theorem dX4_bestReader_89 : decode cX4_bestReader 89 = .ok (.goto (-82), 3) := g_167 65454 bX4_bestReader rfl rfl
theorem dX4_dearestUnread_9 : decode cX4_dearestUnread 9 = .ok (.if_icmp .ge 42, 3) := g_162 42 bX4_dearestUnread rfl rfl
theorem dX4_dearestUnread_20 : decode cX4_dearestUnread 20 = .ok (.ifCond .ne 25, 3) := g_154 25 bX4_dearestUnread rfl rfl
theorem dX4_dearestUnread_25 : decode cX4_dearestUnread 25 = .ok (.if_icmp .eq 18, 3) := g_159 18 bX4_dearestUnread rfl rfl
theorem dX4_dearestUnread_40 : decode cX4_dearestUnread 40 = .ok (.if_icmp .le 5, 3) := g_164 5 bX4_dearestUnread rfl rfl
theorem dX4_dearestUnread_45 : decode cX4_dearestUnread 45 = .ok (.iinc 2 1, 3) := g_132 1 bX4_dearestUnread rfl rfl
theorem dX4_dearestUnread_48 : decode cX4_dearestUnread 48 = .ok (.goto (-44), 3) := g_167 65492 bX4_dearestUnread rfl rfl
theorem dX4_isBook_1 : decode cX4_isBook 1 = .ok (.ifCond .lt 15, 3) := g_155 15 bX4_isBook rfl rfl
theorem dX4_isBook_9 : decode cX4_isBook 9 = .ok (.if_icmp .ge 7, 3) := g_162 7 bX4_isBook rfl rfl
theorem dX4_isBook_13 : decode cX4_isBook 13 = .ok (.goto 4, 3) := g_167 4 bX4_isBook rfl rfl
theorem dX4_isOne_1 : decode cX4_isOne 1 = .ok (.ifCond .lt 15, 3) := g_155 15 bX4_isOne rfl rfl
theorem dX4_isOne_9 : decode cX4_isOne 9 = .ok (.if_icmp .ge 7, 3) := g_162 7 bX4_isOne rfl rfl
theorem dX4_isOne_13 : decode cX4_isOne 13 = .ok (.goto 4, 3) := g_167 4 bX4_isOne rfl rfl
theorem dX4_youngestBut_9 : decode cX4_youngestBut 9 = .ok (.if_icmp .ge 47, 3) := g_162 47 bX4_youngestBut rfl rfl
theorem dX4_youngestBut_14 : decode cX4_youngestBut 14 = .ok (.if_icmp .eq 36, 3) := g_159 36 bX4_youngestBut rfl rfl
theorem dX4_youngestBut_25 : decode cX4_youngestBut 25 = .ok (.ifCond .ne 25, 3) := g_154 25 bX4_youngestBut rfl rfl
theorem dX4_youngestBut_30 : decode cX4_youngestBut 30 = .ok (.if_icmp .eq 18, 3) := g_159 18 bX4_youngestBut rfl rfl
theorem dX4_youngestBut_45 : decode cX4_youngestBut 45 = .ok (.if_icmp .ge 5, 3) := g_162 5 bX4_youngestBut rfl rfl
theorem dX4_youngestBut_50 : decode cX4_youngestBut 50 = .ok (.iinc 3 1, 3) := g_132 1 bX4_youngestBut rfl rfl
theorem dX4_youngestBut_53 : decode cX4_youngestBut 53 = .ok (.goto (-49), 3) := g_167 65487 bX4_youngestBut rfl rfl
theorem dJ6_bitCount_0f7a4_36 : decode cJ6_bitCount_0f7a4 36 = .ok (.bipush 8, 2) := g_16 8 bJ6_bitCount_0f7a4 rfl rfl
theorem dJ6_bitCount_0f7a4_43 : decode cJ6_bitCount_0f7a4 43 = .ok (.bipush 16, 2) := g_16 16 bJ6_bitCount_0f7a4 rfl rfl
theorem dJ6_bitCount_0f7a4_49 : decode cJ6_bitCount_0f7a4 49 = .ok (.bipush 63, 2) := g_16 63 bJ6_bitCount_0f7a4 rfl rfl
theorem dX4_allNeededBy_12 : decode cX4_allNeededBy 12 = .ok (.ifCond .lt 26, 3) := g_155 26 bX4_allNeededBy rfl rfl
theorem dX4_allNeededBy_20 : decode cX4_allNeededBy 20 = .ok (.ifCond .eq 12, 3) := g_153 12 bX4_allNeededBy rfl rfl
theorem dX4_allNeededBy_32 : decode cX4_allNeededBy 32 = .ok (.iinc 3 (-1), 3) := g_132 255 bX4_allNeededBy rfl rfl
theorem dX4_allNeededBy_35 : decode cX4_allNeededBy 35 = .ok (.goto (-24), 3) := g_167 65512 bX4_allNeededBy rfl rfl
theorem dX4_allThatNeed_11 : decode cX4_allThatNeed 11 = .ok (.if_icmp .ge 27, 3) := g_162 27 bX4_allThatNeed rfl rfl
theorem dX4_allThatNeed_23 : decode cX4_allThatNeed 23 = .ok (.ifCond .eq 9, 3) := g_153 9 bX4_allThatNeed rfl rfl
theorem dX4_allThatNeed_32 : decode cX4_allThatNeed 32 = .ok (.iinc 3 1, 3) := g_132 1 bX4_allThatNeed rfl rfl
theorem dX4_allThatNeed_35 : decode cX4_allThatNeed 35 = .ok (.goto (-29), 3) := g_167 65507 bX4_allThatNeed rfl rfl
theorem dX4_drawBelow20_8 : decode cX4_drawBelow20 8 = .ok (.sipush 12345, 3) := g_17 12345 bX4_drawBelow20 rfl rfl
theorem dX4_drawBelow20_19 : decode cX4_drawBelow20 19 = .ok (.bipush 16, 2) := g_16 16 bX4_drawBelow20 rfl rfl
theorem dX4_drawBelow20_22 : decode cX4_drawBelow20 22 = .ok (.bipush 20, 2) := g_16 20 bX4_drawBelow20 rfl rfl
theorem dX4_forget_8 : decode cX4_forget 8 = .ok (.ifCond .eq 7, 3) := g_153 7 bX4_forget rfl rfl
theorem dX4_forget_12 : decode cX4_forget 12 = .ok (.goto 12, 3) := g_167 12 bX4_forget rfl rfl
theorem dX4_forget_15 : decode cX4_forget 15 = .ok (.bipush 90, 2) := g_16 90 bX4_forget rfl rfl
theorem dX4_forget_32 : decode cX4_forget 32 = .ok (.if_icmp .ge 26, 3) := g_162 26 bX4_forget rfl rfl
theorem dX4_forget_46 : decode cX4_forget 46 = .ok (.bipush 100, 2) := g_16 100 bX4_forget rfl rfl
theorem dX4_forget_52 : decode cX4_forget 52 = .ok (.iinc 3 1, 3) := g_132 1 bX4_forget rfl rfl
theorem dX4_forget_55 : decode cX4_forget 55 = .ok (.goto (-28), 3) := g_167 65508 bX4_forget rfl rfl
theorem dX4_gainByReading_8 : decode cX4_gainByReading 8 = .ok (.if_icmp .ne 7, 3) := g_160 7 bX4_gainByReading rfl rfl
theorem dX4_gainByReading_12 : decode cX4_gainByReading 12 = .ok (.goto 26, 3) := g_167 26 bX4_gainByReading rfl rfl
theorem dX4_unreadAt_9 : decode cX4_unreadAt 9 = .ok (.if_icmp .ge 30, 3) := g_162 30 bX4_unreadAt rfl rfl
theorem dX4_unreadAt_20 : decode cX4_unreadAt 20 = .ok (.ifCond .ne 13, 3) := g_154 13 bX4_unreadAt rfl rfl
theorem dX4_unreadAt_25 : decode cX4_unreadAt 25 = .ok (.if_icmp .ne 5, 3) := g_160 5 bX4_unreadAt rfl rfl
theorem dX4_unreadAt_30 : decode cX4_unreadAt 30 = .ok (.iinc 2 1, 3) := g_132 1 bX4_unreadAt rfl rfl
theorem dX4_unreadAt_33 : decode cX4_unreadAt 33 = .ok (.iinc 3 1, 3) := g_132 1 bX4_unreadAt rfl rfl
theorem dX4_unreadAt_36 : decode cX4_unreadAt 36 = .ok (.goto (-32), 3) := g_167 65504 bX4_unreadAt rfl rfl
theorem dX4_become_50 : decode cX4_become 50 = .ok (.bipush 8, 2) := g_16 8 bX4_become rfl rfl
theorem dX4_become_65 : decode cX4_become 65 = .ok (.bipush 8, 2) := g_16 8 bX4_become rfl rfl
theorem dX4_become_80 : decode cX4_become 80 = .ok (.bipush 8, 2) := g_16 8 bX4_become rfl rfl
theorem dX4_become_95 : decode cX4_become 95 = .ok (.bipush 8, 2) := g_16 8 bX4_become rfl rfl
theorem dX4_become_110 : decode cX4_become 110 = .ok (.bipush 8, 2) := g_16 8 bX4_become rfl rfl
theorem dX4_become_125 : decode cX4_become 125 = .ok (.bipush 8, 2) := g_16 8 bX4_become rfl rfl
theorem dX4_become_140 : decode cX4_become 140 = .ok (.bipush 8, 2) := g_16 8 bX4_become rfl rfl
theorem dX4_become_155 : decode cX4_become 155 = .ok (.bipush 64, 2) := g_16 64 bX4_become rfl rfl
theorem dX4_drawDeaths_7 : decode cX4_drawDeaths 7 = .ok (.if_icmp .ge 45, 3) := g_162 45 bX4_drawDeaths rfl rfl
theorem dX4_drawDeaths_18 : decode cX4_drawDeaths 18 = .ok (.ifCond .ne 28, 3) := g_154 28 bX4_drawDeaths rfl rfl
theorem dX4_drawDeaths_31 : decode cX4_drawDeaths 31 = .ok (.if_icmp .ge 15, 3) := g_162 15 bX4_drawDeaths rfl rfl
theorem dX4_drawDeaths_46 : decode cX4_drawDeaths 46 = .ok (.iinc 1 1, 3) := g_132 1 bX4_drawDeaths rfl rfl
theorem dX4_drawDeaths_49 : decode cX4_drawDeaths 49 = .ok (.goto (-47), 3) := g_167 65489 bX4_drawDeaths rfl rfl
theorem dX4_endYear_12 : decode cX4_endYear 12 = .ok (.if_icmp .ge 55, 3) := g_162 55 bX4_endYear rfl rfl
theorem dX4_endYear_20 : decode cX4_endYear 20 = .ok (.ifCond .eq 41, 3) := g_153 41 bX4_endYear rfl rfl
theorem dX4_endYear_39 : decode cX4_endYear 39 = .ok (.bipush 9, 2) := g_16 9 bX4_endYear rfl rfl
theorem dX4_endYear_41 : decode cX4_endYear 41 = .ok (.if_icmp .le 15, 3) := g_164 15 bX4_endYear rfl rfl
theorem dX4_endYear_61 : decode cX4_endYear 61 = .ok (.iinc 2 1, 3) := g_132 1 bX4_endYear rfl rfl
theorem dX4_endYear_64 : decode cX4_endYear 64 = .ok (.goto (-57), 3) := g_167 65479 bX4_endYear rfl rfl
theorem dX4_hearFrom_36 : decode cX4_hearFrom 36 = .ok (.if_icmp .ge 57, 3) := g_162 57 bX4_hearFrom rfl rfl
theorem dX4_hearFrom_60 : decode cX4_hearFrom 60 = .ok (.ifCond .eq 27, 3) := g_153 27 bX4_hearFrom rfl rfl
theorem dX4_hearFrom_72 : decode cX4_hearFrom 72 = .ok (.if_icmp .le 15, 3) := g_164 15 bX4_hearFrom rfl rfl
theorem dX4_hearFrom_84 : decode cX4_hearFrom 84 = .ok (.iinc 6 1, 3) := g_132 1 bX4_hearFrom rfl rfl
theorem dX4_hearFrom_87 : decode cX4_hearFrom 87 = .ok (.iinc 7 1, 3) := g_132 1 bX4_hearFrom rfl rfl
theorem dX4_hearFrom_90 : decode cX4_hearFrom 90 = .ok (.goto (-60), 3) := g_167 65476 bX4_hearFrom rfl rfl
theorem dX1_tellChain_7 : decode cX1_tellChain 7 = .ok (.if_icmp .ge 58, 3) := g_162 58 bX1_tellChain rfl rfl
theorem dX1_tellChain_18 : decode cX1_tellChain 18 = .ok (.ifCond .eq 7, 3) := g_153 7 bX1_tellChain rfl rfl
theorem dX1_tellChain_22 : decode cX1_tellChain 22 = .ok (.goto 8, 3) := g_167 8 bX1_tellChain rfl rfl
theorem dX1_tellChain_38 : decode cX1_tellChain 38 = .ok (.if_icmp .ge 21, 3) := g_162 21 bX1_tellChain rfl rfl
theorem dX1_tellChain_43 : decode cX1_tellChain 43 = .ok (.if_icmp .eq 16, 3) := g_159 16 bX1_tellChain rfl rfl
theorem dX1_tellChain_53 : decode cX1_tellChain 53 = .ok (.iinc 3 1, 3) := g_132 1 bX1_tellChain rfl rfl
theorem dX1_tellChain_56 : decode cX1_tellChain 56 = .ok (.goto (-23), 3) := g_167 65513 bX1_tellChain rfl rfl
theorem dX1_tellChain_59 : decode cX1_tellChain 59 = .ok (.iinc 1 1, 3) := g_132 1 bX1_tellChain rfl rfl
theorem dX1_tellChain_62 : decode cX1_tellChain 62 = .ok (.goto (-60), 3) := g_167 65476 bX1_tellChain rfl rfl
theorem dX1_act_1 : decode cX1_act 1 = .ok (.tableswitch 89 1 6 #[39, 47, 54, 62, 68, 78], 39) := by decide +kernel
theorem dX1_act_41 : decode cX1_act 41 = .ok (.bipush 8, 2) := g_16 8 bX1_act rfl rfl
theorem dX1_act_56 : decode cX1_act 56 = .ok (.bipush 8, 2) := g_16 8 bX1_act rfl rfl
theorem dX1_readDearest_7 : decode cX1_readDearest 7 = .ok (.bipush 8, 2) := g_16 8 bX1_readDearest rfl rfl
theorem dX1_readDearest_9 : decode cX1_readDearest 9 = .ok (.if_icmp .ge 76, 3) := g_162 76 bX1_readDearest rfl rfl
theorem dX1_readDearest_15 : decode cX1_readDearest 15 = .ok (.if_icmp .ge 70, 3) := g_162 70 bX1_readDearest rfl rfl
theorem dX1_readDearest_27 : decode cX1_readDearest 27 = .ok (.if_icmp .ne 7, 3) := g_160 7 bX1_readDearest rfl rfl
theorem dX1_readDearest_31 : decode cX1_readDearest 31 = .ok (.goto 9, 3) := g_167 9 bX1_readDearest rfl rfl
theorem dX1_readDearest_45 : decode cX1_readDearest 45 = .ok (.if_icmp .ne 6, 3) := g_160 6 bX1_readDearest rfl rfl
theorem dX1_readDearest_48 : decode cX1_readDearest 48 = .ok (.goto 37, 3) := g_167 37 bX1_readDearest rfl rfl
theorem dX1_readDearest_60 : decode cX1_readDearest 60 = .ok (.ifCond .eq 16, 3) := g_153 16 bX1_readDearest rfl rfl
theorem dX1_readDearest_76 : decode cX1_readDearest 76 = .ok (.iinc 3 1, 3) := g_132 1 bX1_readDearest rfl rfl
theorem dX1_readDearest_79 : decode cX1_readDearest 79 = .ok (.iinc 4 1, 3) := g_132 1 bX1_readDearest rfl rfl
theorem dX1_readDearest_82 : decode cX1_readDearest 82 = .ok (.goto (-77), 3) := g_167 65459 bX1_readDearest rfl rfl
theorem dX0_bestWho_12 : decode cX0_bestWho 12 = .ok (.if_icmp .ge 74, 3) := g_162 74 bX0_bestWho rfl rfl
theorem dX0_bestWho_24 : decode cX0_bestWho 24 = .ok (.ifCond .eq 56, 3) := g_153 56 bX0_bestWho rfl rfl
theorem dX0_bestWho_58 : decode cX0_bestWho 58 = .ok (.if_icmp .eq 12, 3) := g_159 12 bX0_bestWho rfl rfl
theorem dX0_bestWho_67 : decode cX0_bestWho 67 = .ok (.if_icmp .le 13, 3) := g_164 13 bX0_bestWho rfl rfl
theorem dX0_bestWho_80 : decode cX0_bestWho 80 = .ok (.iinc 5 1, 3) := g_132 1 bX0_bestWho rfl rfl
theorem dX0_bestWho_83 : decode cX0_bestWho 83 = .ok (.goto (-77), 3) := g_167 65459 bX0_bestWho rfl rfl
theorem dX0_findKeeping_8 : decode cX0_findKeeping 8 = .ok (.if_icmp .ne 5, 3) := g_160 5 bX0_findKeeping rfl rfl
theorem dX0_findKeeping_50 : decode cX0_findKeeping 50 = .ok (.if_icmp .ne 5, 3) := g_160 5 bX0_findKeeping rfl rfl
theorem dX0_sumOfRest_6 : decode cX0_sumOfRest 6 = .ok (.if_icmp .ge 32, 3) := g_162 32 bX0_sumOfRest rfl rfl
theorem dX0_sumOfRest_13 : decode cX0_sumOfRest 13 = .ok (.ifCond .eq 25, 3) := g_153 25 bX0_sumOfRest rfl rfl
theorem dX0_sumOfRest_32 : decode cX0_sumOfRest 32 = .ok (.iinc 3 1, 3) := g_132 1 bX0_sumOfRest rfl rfl
theorem dX0_sumOfRest_35 : decode cX0_sumOfRest 35 = .ok (.goto (-31), 3) := g_167 65505 bX0_sumOfRest rfl rfl
theorem dX0_sumOfRun_10 : decode cX0_sumOfRun 10 = .ok (.if_icmp .ge 53, 3) := g_162 53 bX0_sumOfRun rfl rfl
theorem dX0_sumOfRun_17 : decode cX0_sumOfRun 17 = .ok (.ifCond .ne 11, 3) := g_154 11 bX0_sumOfRun rfl rfl
theorem dX0_sumOfRun_25 : decode cX0_sumOfRun 25 = .ok (.goto 38, 3) := g_167 38 bX0_sumOfRun rfl rfl
theorem dX0_sumOfRun_57 : decode cX0_sumOfRun 57 = .ok (.iinc 6 1, 3) := g_132 1 bX0_sumOfRun rfl rfl
theorem dX0_sumOfRun_60 : decode cX0_sumOfRun 60 = .ok (.goto (-54), 3) := g_167 65482 bX0_sumOfRun rfl rfl
theorem dX0_worthByRising_18 : decode cX0_worthByRising 18 = .ok (.if_icmp .ge 32, 3) := g_162 32 bX0_worthByRising rfl rfl
theorem dX0_worthByRising_32 : decode cX0_worthByRising 32 = .ok (.ifCond .ne 12, 3) := g_154 12 bX0_worthByRising rfl rfl
theorem dX0_worthByRising_44 : decode cX0_worthByRising 44 = .ok (.iinc 3 1, 3) := g_132 1 bX0_worthByRising rfl rfl
theorem dX0_worthByRising_47 : decode cX0_worthByRising 47 = .ok (.goto (-37), 3) := g_167 65499 bX0_worthByRising rfl rfl
theorem dX1_isUnder_1 : decode cX1_isUnder 1 = .ok (.tableswitch 70 0 4 #[35, 37, 70, 70, 53], 35) := by decide +kernel
theorem dX1_isUnder_40 : decode cX1_isUnder 40 = .ok (.if_icmp .lt 12, 3) := g_161 12 bX1_isUnder rfl rfl
theorem dX1_isUnder_45 : decode cX1_isUnder 45 = .ok (.if_icmp .gt 7, 3) := g_163 7 bX1_isUnder rfl rfl
theorem dX1_isUnder_49 : decode cX1_isUnder 49 = .ok (.goto 4, 3) := g_167 4 bX1_isUnder rfl rfl
theorem dX1_isUnder_56 : decode cX1_isUnder 56 = .ok (.if_icmp .lt 13, 3) := g_161 13 bX1_isUnder rfl rfl
theorem dX1_isUnder_60 : decode cX1_isUnder 60 = .ok (.bipush 6, 2) := g_16 6 bX1_isUnder rfl rfl
theorem dX1_isUnder_62 : decode cX1_isUnder 62 = .ok (.if_icmp .gt 7, 3) := g_163 7 bX1_isUnder rfl rfl
theorem dX1_isUnder_66 : decode cX1_isUnder 66 = .ok (.goto 4, 3) := g_167 4 bX1_isUnder rfl rfl
theorem dX1_isUnder_73 : decode cX1_isUnder 73 = .ok (.if_icmp .ne 7, 3) := g_160 7 bX1_isUnder rfl rfl
theorem dX1_isUnder_77 : decode cX1_isUnder 77 = .ok (.goto 4, 3) := g_167 4 bX1_isUnder rfl rfl
theorem dX2_at_5 : decode cX2_at 5 = .ok (.bipush 40, 2) := g_16 40 bX2_at rfl rfl
theorem dX2_countHolding_5 : decode cX2_countHolding 5 = .ok (.bipush 8, 2) := g_16 8 bX2_countHolding rfl rfl
theorem dX2_countHolding_7 : decode cX2_countHolding 7 = .ok (.if_icmp .ge 22, 3) := g_162 22 bX2_countHolding rfl rfl
theorem dX2_countHolding_17 : decode cX2_countHolding 17 = .ok (.if_icmp .eq 6, 3) := g_159 6 bX2_countHolding rfl rfl
theorem dX2_countHolding_20 : decode cX2_countHolding 20 = .ok (.iinc 1 1, 3) := g_132 1 bX2_countHolding rfl rfl
theorem dX2_countHolding_23 : decode cX2_countHolding 23 = .ok (.iinc 2 1, 3) := g_132 1 bX2_countHolding rfl rfl
theorem dX2_countHolding_26 : decode cX2_countHolding 26 = .ok (.goto (-22), 3) := g_167 65514 bX2_countHolding rfl rfl
theorem dX2_hasRow_6 : decode cX2_hasRow 6 = .ok (.ifCond .lt 17, 3) := g_155 17 bX2_hasRow rfl rfl
theorem dX2_hasRow_16 : decode cX2_hasRow 16 = .ok (.if_icmp .gt 7, 3) := g_163 7 bX2_hasRow rfl rfl
theorem dX2_hasRow_20 : decode cX2_hasRow 20 = .ok (.goto 4, 3) := g_167 4 bX2_hasRow rfl rfl
theorem dX2_hasRule_6 : decode cX2_hasRule 6 = .ok (.bipush 10, 2) := g_16 10 bX2_hasRule rfl rfl
theorem dX2_hasRule_8 : decode cX2_hasRule 8 = .ok (.if_icmp .lt 7, 3) := g_161 7 bX2_hasRule rfl rfl
theorem dX2_hasRule_12 : decode cX2_hasRule 12 = .ok (.goto 4, 3) := g_167 4 bX2_hasRule rfl rfl
theorem dX2_kindIn_6 : decode cX2_kindIn 6 = .ok (.bipush 10, 2) := g_16 10 bX2_kindIn rfl rfl
theorem dX2_lowestBits_1 : decode cX2_lowestBits 1 = .ok (.tableswitch 61 0 4 #[35, 40, 45, 61, 49], 35) := by decide +kernel
theorem dX2_lowestBits_53 : decode cX2_lowestBits 53 = .ok (.ifCond .eq 7, 3) := g_153 7 bX2_lowestBits rfl rfl
theorem dX2_lowestBits_57 : decode cX2_lowestBits 57 = .ok (.goto 4, 3) := g_167 4 bX2_lowestBits rfl rfl
theorem dX2_move_5 : decode cX2_move 5 = .ok (.bipush 40, 2) := g_16 40 bX2_move rfl rfl
theorem dX2_move_15 : decode cX2_move 15 = .ok (.bipush 40, 2) := g_16 40 bX2_move rfl rfl
theorem dX2_put_5 : decode cX2_put 5 = .ok (.bipush 40, 2) := g_16 40 bX2_put rfl rfl
theorem dX2_putRow_20 : decode cX2_putRow 20 = .ok (.if_icmp .ge 22, 3) := g_162 22 bX2_putRow rfl rfl
theorem dX2_putRow_28 : decode cX2_putRow 28 = .ok (.bipush 40, 2) := g_16 40 bX2_putRow rfl rfl
theorem dX2_putRow_36 : decode cX2_putRow 36 = .ok (.iinc 4 1, 3) := g_132 1 bX2_putRow rfl rfl
theorem dX2_putRow_39 : decode cX2_putRow 39 = .ok (.goto (-22), 3) := g_167 65514 bX2_putRow rfl rfl
theorem dX2_putRule_5 : decode cX2_putRule 5 = .ok (.bipush 10, 2) := g_16 10 bX2_putRule rfl rfl
theorem dX5_canBeOne_8 : decode cX5_canBeOne 8 = .ok (.ifCond .eq 42, 3) := g_153 42 bX5_canBeOne rfl rfl
theorem dX5_canBeOne_19 : decode cX5_canBeOne 19 = .ok (.ifCond .eq 31, 3) := g_153 31 bX5_canBeOne rfl rfl
theorem dX5_canBeOne_31 : decode cX5_canBeOne 31 = .ok (.ifCond .eq 19, 3) := g_153 19 bX5_canBeOne rfl rfl
theorem dX5_canBeOne_43 : decode cX5_canBeOne 43 = .ok (.ifCond .eq 7, 3) := g_153 7 bX5_canBeOne rfl rfl
theorem dX5_canBeOne_47 : decode cX5_canBeOne 47 = .ok (.goto 4, 3) := g_167 4 bX5_canBeOne rfl rfl
theorem dX5_canBeTold_9 : decode cX5_canBeTold 9 = .ok (.ifCond .eq 19, 3) := g_153 19 bX5_canBeTold rfl rfl
theorem dX5_canBeTold_21 : decode cX5_canBeTold 21 = .ok (.ifCond .eq 7, 3) := g_153 7 bX5_canBeTold rfl rfl
theorem dX5_canBeTold_25 : decode cX5_canBeTold 25 = .ok (.goto 4, 3) := g_167 4 bX5_canBeTold rfl rfl
theorem dX5_copyFit_4 : decode cX5_copyFit 4 = .ok (.ifCond .eq 10, 3) := g_153 10 bX5_copyFit rfl rfl
theorem dX5_copyFit_11 : decode cX5_copyFit 11 = .ok (.ifCond .ne 6, 3) := g_154 6 bX5_copyFit rfl rfl
theorem dX5_copyFit_14 : decode cX5_copyFit 14 = .ok (.bipush (-2), 2) := g_16 254 bX5_copyFit rfl rfl
theorem dX5_copyFit_25 : decode cX5_copyFit 25 = .ok (.ifCond .ne 14, 3) := g_154 14 bX5_copyFit rfl rfl
theorem dX5_copyFit_36 : decode cX5_copyFit 36 = .ok (.ifCond .eq 6, 3) := g_153 6 bX5_copyFit rfl rfl
theorem dX5_copyFit_39 : decode cX5_copyFit 39 = .ok (.bipush (-3), 2) := g_16 253 bX5_copyFit rfl rfl
theorem dX5_copyFit_50 : decode cX5_copyFit 50 = .ok (.ifCond .eq 14, 3) := g_153 14 bX5_copyFit rfl rfl
theorem dX5_copyFit_61 : decode cX5_copyFit 61 = .ok (.ifCond .ne 6, 3) := g_154 6 bX5_copyFit rfl rfl
theorem dX5_copyFit_64 : decode cX5_copyFit 64 = .ok (.bipush (-4), 2) := g_16 252 bX5_copyFit rfl rfl
theorem dX5_copyFit_85 : decode cX5_copyFit 85 = .ok (.if_icmp .ne 7, 3) := g_160 7 bX5_copyFit rfl rfl
theorem dX5_copyFit_89 : decode cX5_copyFit 89 = .ok (.goto 5, 3) := g_167 5 bX5_copyFit rfl rfl
theorem dX5_copyFit_92 : decode cX5_copyFit 92 = .ok (.bipush (-3), 2) := g_16 253 bX5_copyFit rfl rfl
theorem dX5_hasSpan_1 : decode cX5_hasSpan 1 = .ok (.ifCond .lt 30, 3) := g_155 30 bX5_hasSpan rfl rfl
theorem dX5_hasSpan_5 : decode cX5_hasSpan 5 = .ok (.ifCond .lt 26, 3) := g_155 26 bX5_hasSpan rfl rfl
theorem dX5_hasSpan_24 : decode cX5_hasSpan 24 = .ok (.ifCond .gt 7, 3) := g_157 7 bX5_hasSpan rfl rfl
theorem dX5_hasSpan_28 : decode cX5_hasSpan 28 = .ok (.goto 4, 3) := g_167 4 bX5_hasSpan rfl rfl
theorem dX5_isPair_8 : decode cX5_isPair 8 = .ok (.ifCond .eq 18, 3) := g_153 18 bX5_isPair rfl rfl
theorem dX5_isPair_19 : decode cX5_isPair 19 = .ok (.ifCond .eq 7, 3) := g_153 7 bX5_isPair rfl rfl
theorem dX5_isPair_23 : decode cX5_isPair 23 = .ok (.goto 4, 3) := g_167 4 bX5_isPair rfl rfl
theorem dX5_isSetOf_8 : decode cX5_isSetOf 8 = .ok (.ifCond .ne 7, 3) := g_154 7 bX5_isSetOf rfl rfl
theorem dX5_isSetOf_12 : decode cX5_isSetOf 12 = .ok (.goto 4, 3) := g_167 4 bX5_isSetOf rfl rfl
theorem dX5_readFit_6 : decode cX5_readFit 6 = .ok (.ifCond .ne 6, 3) := g_154 6 bX5_readFit rfl rfl
theorem dX5_readFit_9 : decode cX5_readFit 9 = .ok (.bipush (-2), 2) := g_16 254 bX5_readFit rfl rfl
theorem dX5_readFit_23 : decode cX5_readFit 23 = .ok (.ifCond .ne 17, 3) := g_154 17 bX5_readFit rfl rfl
theorem dX5_readFit_37 : decode cX5_readFit 37 = .ok (.ifCond .eq 8, 3) := g_153 8 bX5_readFit rfl rfl
theorem dX5_readFit_40 : decode cX5_readFit 40 = .ok (.bipush (-5), 2) := g_16 251 bX5_readFit rfl rfl
theorem dX5_readFit_42 : decode cX5_readFit 42 = .ok (.goto 4, 3) := g_167 4 bX5_readFit rfl rfl
theorem dX5_refuse_0 : decode cX5_refuse 0 = .ok (.bipush (-2), 2) := g_16 254 bX5_refuse rfl rfl
theorem dX5_refuse_19 : decode cX5_refuse 19 = .ok (.ifCond .eq 13, 3) := g_153 13 bX5_refuse rfl rfl
theorem dX5_rowFit_4 : decode cX5_rowFit 4 = .ok (.ifCond .ne 6, 3) := g_154 6 bX5_rowFit rfl rfl
theorem dX5_rowFit_7 : decode cX5_rowFit 7 = .ok (.bipush (-2), 2) := g_16 254 bX5_rowFit rfl rfl
theorem dX5_rowFit_18 : decode cX5_rowFit 18 = .ok (.ifCond .eq 6, 3) := g_153 6 bX5_rowFit rfl rfl
theorem dX5_rowFit_21 : decode cX5_rowFit 21 = .ok (.bipush (-3), 2) := g_16 253 bX5_rowFit rfl rfl
theorem dX5_rowFit_32 : decode cX5_rowFit 32 = .ok (.ifCond .eq 7, 3) := g_153 7 bX5_rowFit rfl rfl
theorem dX5_rowFit_36 : decode cX5_rowFit 36 = .ok (.goto 5, 3) := g_167 5 bX5_rowFit rfl rfl
theorem dX5_rowFit_39 : decode cX5_rowFit 39 = .ok (.bipush (-4), 2) := g_16 252 bX5_rowFit rfl rfl
theorem dX5_ruleFit_4 : decode cX5_ruleFit 4 = .ok (.ifCond .ne 6, 3) := g_154 6 bX5_ruleFit rfl rfl
theorem dX5_ruleFit_7 : decode cX5_ruleFit 7 = .ok (.bipush (-2), 2) := g_16 254 bX5_ruleFit rfl rfl
theorem dX5_ruleFit_18 : decode cX5_ruleFit 18 = .ok (.ifCond .eq 6, 3) := g_153 6 bX5_ruleFit rfl rfl
theorem dX5_ruleFit_21 : decode cX5_ruleFit 21 = .ok (.bipush (-3), 2) := g_16 253 bX5_ruleFit rfl rfl
theorem dX5_ruleFit_32 : decode cX5_ruleFit 32 = .ok (.ifCond .eq 7, 3) := g_153 7 bX5_ruleFit rfl rfl
theorem dX5_ruleFit_36 : decode cX5_ruleFit 36 = .ok (.goto 5, 3) := g_167 5 bX5_ruleFit rfl rfl
theorem dX5_ruleFit_39 : decode cX5_ruleFit 39 = .ok (.bipush (-4), 2) := g_16 252 bX5_ruleFit rfl rfl
theorem dX5_toldFit_9 : decode cX5_toldFit 9 = .ok (.ifCond .eq 11, 3) := g_153 11 bX5_toldFit rfl rfl
theorem dX5_toldFit_17 : decode cX5_toldFit 17 = .ok (.goto 5, 3) := g_167 5 bX5_toldFit rfl rfl
theorem dX5_toldFit_20 : decode cX5_toldFit 20 = .ok (.bipush (-2), 2) := g_16 254 bX5_toldFit rfl rfl
theorem dX5_toldFit_24 : decode cX5_toldFit 24 = .ok (.ifCond .ne 21, 3) := g_154 21 bX5_toldFit rfl rfl
theorem dX5_toldFit_37 : decode cX5_toldFit 37 = .ok (.if_icmp .le 8, 3) := g_164 8 bX5_toldFit rfl rfl
theorem dX5_toldFit_40 : decode cX5_toldFit 40 = .ok (.bipush (-2), 2) := g_16 254 bX5_toldFit rfl rfl
theorem dX5_toldFit_42 : decode cX5_toldFit 42 = .ok (.goto 4, 3) := g_167 4 bX5_toldFit rfl rfl
theorem dX5_aloud_11 : decode cX5_aloud 11 = .ok (.ifCond .eq 12, 3) := g_153 12 bX5_aloud rfl rfl
theorem dX5_aloud_20 : decode cX5_aloud 20 = .ok (.goto 5, 3) := g_167 5 bX5_aloud rfl rfl
theorem dX5_aloud_23 : decode cX5_aloud 23 = .ok (.bipush (-2), 2) := g_16 254 bX5_aloud rfl rfl
theorem dX5_aloud_29 : decode cX5_aloud 29 = .ok (.ifCond .eq 10, 3) := g_153 10 bX5_aloud rfl rfl
theorem dX5_alter_6 : decode cX5_alter 6 = .ok (.ifCond .eq 15, 3) := g_153 15 bX5_alter rfl rfl
theorem dX5_alter_18 : decode cX5_alter 18 = .ok (.ifCond .ne 10, 3) := g_154 10 bX5_alter rfl rfl
theorem dX5_alter_22 : decode cX5_alter 22 = .ok (.bipush (-2), 2) := g_16 254 bX5_alter rfl rfl
theorem dX5_alter_39 : decode cX5_alter 39 = .ok (.ifCond .eq 10, 3) := g_153 10 bX5_alter rfl rfl
theorem dX5_alter_43 : decode cX5_alter 43 = .ok (.bipush (-5), 2) := g_16 251 bX5_alter rfl rfl
theorem dX5_book_9 : decode cX5_book 9 = .ok (.ifCond .eq 17, 3) := g_153 17 bX5_book rfl rfl
theorem dX5_book_23 : decode cX5_book 23 = .ok (.ifCond .ne 10, 3) := g_154 10 bX5_book rfl rfl
theorem dX5_book_27 : decode cX5_book 27 = .ok (.bipush (-2), 2) := g_16 254 bX5_book rfl rfl
theorem dX5_book_40 : decode cX5_book 40 = .ok (.bipush 8, 2) := g_16 8 bX5_book rfl rfl
theorem dX5_book_42 : decode cX5_book 42 = .ok (.if_icmp .lt 10, 3) := g_161 10 bX5_book rfl rfl
theorem dX5_book_46 : decode cX5_book 46 = .ok (.bipush (-6), 2) := g_16 250 bX5_book rfl rfl
theorem dX5_bookOf_8 : decode cX5_bookOf 8 = .ok (.ifCond .ne 10, 3) := g_154 10 bX5_bookOf rfl rfl
theorem dX5_bookOf_12 : decode cX5_bookOf 12 = .ok (.bipush (-2), 2) := g_16 254 bX5_bookOf rfl rfl
theorem dX5_bookOf_19 : decode cX5_bookOf 19 = .ok (.tableswitch 102 0 4 #[33, 43, 53, 63, 83], 33) := by decide +kernel
theorem dX5_bookOf_93 : decode cX5_bookOf 93 = .ok (.ifCond .eq 7, 3) := g_153 7 bX5_bookOf rfl rfl
theorem dX5_bookOf_97 : decode cX5_bookOf 97 = .ok (.goto 4, 3) := g_167 4 bX5_bookOf rfl rfl
theorem dX5_bookOf_122 : decode cX5_bookOf 122 = .ok (.bipush (-2), 2) := g_16 254 bX5_bookOf rfl rfl
theorem dX5_copy_10 : decode cX5_copy 10 = .ok (.ifCond .ne 30, 3) := g_154 30 bX5_copy rfl rfl
theorem dX5_copy_21 : decode cX5_copy 21 = .ok (.ifCond .eq 15, 3) := g_153 15 bX5_copy rfl rfl
theorem dX5_copy_33 : decode cX5_copy 33 = .ok (.ifCond .ne 7, 3) := g_154 7 bX5_copy rfl rfl
theorem dX5_copy_36 : decode cX5_copy 36 = .ok (.bipush (-2), 2) := g_16 254 bX5_copy rfl rfl
theorem dX5_copy_42 : decode cX5_copy 42 = .ok (.ifCond .eq 10, 3) := g_153 10 bX5_copy rfl rfl
theorem dX5_element_5 : decode cX5_element 5 = .ok (.ifCond .ne 24, 3) := g_154 24 bX5_element rfl rfl
theorem dX5_element_26 : decode cX5_element 26 = .ok (.ifCond .ne 5, 3) := g_154 5 bX5_element rfl rfl
theorem dX5_feed_9 : decode cX5_feed 9 = .ok (.ifCond .ne 10, 3) := g_154 10 bX5_feed rfl rfl
theorem dX5_feed_13 : decode cX5_feed 13 = .ok (.bipush (-2), 2) := g_16 254 bX5_feed rfl rfl
theorem dX5_feed_26 : decode cX5_feed 26 = .ok (.sipush 250, 3) := g_17 250 bX5_feed rfl rfl
theorem dX5_feed_31 : decode cX5_feed 31 = .ok (.if_icmp .le 10, 3) := g_164 10 bX5_feed rfl rfl
theorem dX5_feed_35 : decode cX5_feed 35 = .ok (.bipush (-6), 2) := g_16 250 bX5_feed rfl rfl
theorem dX5_feed_41 : decode cX5_feed 41 = .ok (.bipush 8, 2) := g_16 8 bX5_feed rfl rfl
theorem dX5_feed_49 : decode cX5_feed 49 = .ok (.ifCond .lt 20, 3) := g_155 20 bX5_feed rfl rfl
theorem dX5_feed_63 : decode cX5_feed 63 = .ok (.iinc 3 (-8), 3) := g_132 248 bX5_feed rfl rfl
theorem dX5_feed_66 : decode cX5_feed 66 = .ok (.goto (-18), 3) := g_167 65518 bX5_feed rfl rfl
theorem dX5_ground_6 : decode cX5_ground 6 = .ok (.ifCond .eq 15, 3) := g_153 15 bX5_ground rfl rfl
theorem dX5_ground_18 : decode cX5_ground 18 = .ok (.goto 9, 3) := g_167 9 bX5_ground rfl rfl
theorem dX5_ground_22 : decode cX5_ground 22 = .ok (.bipush (-2), 2) := g_16 254 bX5_ground rfl rfl
theorem dX5_holds_4 : decode cX5_holds 4 = .ok (.ifCond .eq 15, 3) := g_153 15 bX5_holds rfl rfl
theorem dX5_holds_16 : decode cX5_holds 16 = .ok (.goto 4, 3) := g_167 4 bX5_holds rfl rfl
theorem dX5_known_6 : decode cX5_known 6 = .ok (.ifCond .eq 15, 3) := g_153 15 bX5_known rfl rfl
theorem dX5_known_18 : decode cX5_known 18 = .ok (.goto 9, 3) := g_167 9 bX5_known rfl rfl
theorem dX5_known_22 : decode cX5_known 22 = .ok (.bipush (-2), 2) := g_16 254 bX5_known rfl rfl
theorem dX5_one_12 : decode cX5_one 12 = .ok (.ifCond .ne 10, 3) := g_154 10 bX5_one rfl rfl
theorem dX5_one_16 : decode cX5_one 16 = .ok (.bipush (-2), 2) := g_16 254 bX5_one rfl rfl
theorem dX5_one_29 : decode cX5_one 29 = .ok (.bipush 8, 2) := g_16 8 bX5_one rfl rfl
theorem dX5_one_31 : decode cX5_one 31 = .ok (.if_icmp .lt 10, 3) := g_161 10 bX5_one rfl rfl
theorem dX5_one_35 : decode cX5_one 35 = .ok (.bipush (-6), 2) := g_16 250 bX5_one rfl rfl
theorem dX5_oneOf_8 : decode cX5_oneOf 8 = .ok (.ifCond .ne 10, 3) := g_154 10 bX5_oneOf rfl rfl
theorem dX5_oneOf_12 : decode cX5_oneOf 12 = .ok (.bipush (-2), 2) := g_16 254 bX5_oneOf rfl rfl
theorem dX5_oneOf_19 : decode cX5_oneOf 19 = .ok (.tableswitch 93 0 4 #[33, 43, 53, 63, 73], 33) := by decide +kernel
theorem dX5_oneOf_103 : decode cX5_oneOf 103 = .ok (.ifCond .eq 7, 3) := g_153 7 bX5_oneOf rfl rfl
theorem dX5_oneOf_107 : decode cX5_oneOf 107 = .ok (.goto 4, 3) := g_167 4 bX5_oneOf rfl rfl
theorem dX5_oneOf_113 : decode cX5_oneOf 113 = .ok (.bipush (-2), 2) := g_16 254 bX5_oneOf rfl rfl
theorem dX5_ones_7 : decode cX5_ones 7 = .ok (.ifCond .ne 31, 3) := g_154 31 bX5_ones rfl rfl
theorem dX5_ones_26 : decode cX5_ones 26 = .ok (.ifCond .eq 9, 3) := g_153 9 bX5_ones rfl rfl
theorem dX5_ones_32 : decode cX5_ones 32 = .ok (.ifCond .eq 6, 3) := g_153 6 bX5_ones rfl rfl
theorem dX5_ones_35 : decode cX5_ones 35 = .ok (.bipush (-2), 2) := g_16 254 bX5_ones rfl rfl
theorem dX5_ones_39 : decode cX5_ones 39 = .ok (.ifCond .eq 9, 3) := g_153 9 bX5_ones rfl rfl
theorem dX5_ones_57 : decode cX5_ones 57 = .ok (.if_icmp .ge 115, 3) := g_162 115 bX5_ones rfl rfl
theorem dX5_ones_67 : decode cX5_ones 67 = .ok (.bipush 8, 2) := g_16 8 bX5_ones rfl rfl
theorem dX5_ones_69 : decode cX5_ones 69 = .ok (.if_icmp .ge 103, 3) := g_162 103 bX5_ones rfl rfl
theorem dX5_ones_137 : decode cX5_ones 137 = .ok (.ifCond .ne 6, 3) := g_154 6 bX5_ones rfl rfl
theorem dX5_ones_140 : decode cX5_ones 140 = .ok (.goto 32, 3) := g_167 32 bX5_ones rfl rfl
theorem dX5_ones_163 : decode cX5_ones 163 = .ok (.iinc 4 1, 3) := g_132 1 bX5_ones rfl rfl
theorem dX5_ones_166 : decode cX5_ones 166 = .ok (.iinc 5 4, 3) := g_132 4 bX5_ones rfl rfl
theorem dX5_ones_169 : decode cX5_ones 169 = .ok (.goto (-115), 3) := g_167 65421 bX5_ones rfl rfl
theorem dX5_read_8 : decode cX5_read 8 = .ok (.ifCond .eq 9, 3) := g_153 9 bX5_read rfl rfl
theorem dX5_reader_8 : decode cX5_reader 8 = .ok (.ifCond .ne 10, 3) := g_154 10 bX5_reader rfl rfl
theorem dX5_reader_12 : decode cX5_reader 12 = .ok (.bipush (-2), 2) := g_16 254 bX5_reader rfl rfl
theorem dX5_reader_29 : decode cX5_reader 29 = .ok (.ifCond .eq 12, 3) := g_153 12 bX5_reader rfl rfl
theorem dX5_reader_33 : decode cX5_reader 33 = .ok (.bipush (-5), 2) := g_16 251 bX5_reader rfl rfl
theorem dX5_reader_38 : decode cX5_reader 38 = .ok (.goto 11, 3) := g_167 11 bX5_reader rfl rfl
theorem dX5_row_4 : decode cX5_row 4 = .ok (.ifCond .eq 27, 3) := g_153 27 bX5_row rfl rfl
theorem dX5_row_16 : decode cX5_row 16 = .ok (.ifCond .eq 15, 3) := g_153 15 bX5_row rfl rfl
theorem dX5_row_28 : decode cX5_row 28 = .ok (.ifCond .ne 10, 3) := g_154 10 bX5_row rfl rfl
theorem dX5_row_32 : decode cX5_row 32 = .ok (.bipush (-2), 2) := g_16 254 bX5_row rfl rfl
theorem dX5_rule_4 : decode cX5_rule 4 = .ok (.ifCond .eq 27, 3) := g_153 27 bX5_rule rfl rfl
theorem dX5_rule_16 : decode cX5_rule 16 = .ok (.ifCond .eq 15, 3) := g_153 15 bX5_rule rfl rfl
theorem dX5_rule_28 : decode cX5_rule 28 = .ok (.ifCond .ne 10, 3) := g_154 10 bX5_rule rfl rfl
theorem dX5_rule_32 : decode cX5_rule 32 = .ok (.bipush (-2), 2) := g_16 254 bX5_rule rfl rfl
theorem dX5_says_9 : decode cX5_says 9 = .ok (.ifCond .eq 11, 3) := g_153 11 bX5_says rfl rfl
theorem dX5_says_17 : decode cX5_says 17 = .ok (.goto 5, 3) := g_167 5 bX5_says rfl rfl
theorem dX5_says_20 : decode cX5_says 20 = .ok (.bipush (-2), 2) := g_16 254 bX5_says rfl rfl
theorem dX5_says_24 : decode cX5_says 24 = .ok (.ifCond .ne 21, 3) := g_154 21 bX5_says rfl rfl
theorem dX5_says_39 : decode cX5_says 39 = .ok (.ifCond .ne 6, 3) := g_154 6 bX5_says rfl rfl
theorem dX5_says_42 : decode cX5_says 42 = .ok (.bipush (-3), 2) := g_16 253 bX5_says rfl rfl
theorem dX5_says_46 : decode cX5_says 46 = .ok (.ifCond .eq 9, 3) := g_153 9 bX5_says rfl rfl
theorem dX5_says_56 : decode cX5_says 56 = .ok (.ifCond .ne 13, 3) := g_154 13 bX5_says rfl rfl
theorem dX5_says_108 : decode cX5_says 108 = .ok (.if_icmp .gt 8, 3) := g_163 8 bX5_says rfl rfl
theorem dX5_says_113 : decode cX5_says 113 = .ok (.goto 8, 3) := g_167 8 bX5_says rfl rfl
theorem dX5_set_9 : decode cX5_set 9 = .ok (.ifCond .ne 28, 3) := g_154 28 bX5_set rfl rfl
theorem dX5_set_30 : decode cX5_set 30 = .ok (.ifCond .ne 7, 3) := g_154 7 bX5_set rfl rfl
theorem dX5_set_33 : decode cX5_set 33 = .ok (.bipush (-2), 2) := g_16 254 bX5_set rfl rfl
theorem dX5_set_39 : decode cX5_set 39 = .ok (.ifCond .eq 10, 3) := g_153 10 bX5_set rfl rfl
theorem dX5_tell_6 : decode cX5_tell 6 = .ok (.ifCond .eq 19, 3) := g_153 19 bX5_tell rfl rfl
theorem dX5_tell_17 : decode cX5_tell 17 = .ok (.ifCond .eq 8, 3) := g_153 8 bX5_tell rfl rfl
theorem dX5_tell_22 : decode cX5_tell 22 = .ok (.if_icmp .ne 10, 3) := g_160 10 bX5_tell rfl rfl
theorem dX5_tell_26 : decode cX5_tell 26 = .ok (.bipush (-2), 2) := g_16 254 bX5_tell rfl rfl
theorem dX5_tell_43 : decode cX5_tell 43 = .ok (.ifCond .ne 17, 3) := g_154 17 bX5_tell rfl rfl
theorem dX5_tell_57 : decode cX5_tell 57 = .ok (.ifCond .eq 10, 3) := g_153 10 bX5_tell rfl rfl
theorem dX5_tell_61 : decode cX5_tell 61 = .ok (.bipush (-5), 2) := g_16 251 bX5_tell rfl rfl
theorem dX5_would_8 : decode cX5_would 8 = .ok (.ifCond .ne 15, 3) := g_154 15 bX5_would rfl rfl
theorem dX5_would_20 : decode cX5_would 20 = .ok (.goto 8, 3) := g_167 8 bX5_would rfl rfl
theorem dX5_write_6 : decode cX5_write 6 = .ok (.ifCond .ne 10, 3) := g_154 10 bX5_write rfl rfl
theorem dX5_write_10 : decode cX5_write 10 = .ok (.bipush (-2), 2) := g_16 254 bX5_write rfl rfl
theorem dX5_write_27 : decode cX5_write 27 = .ok (.ifCond .eq 30, 3) := g_153 30 bX5_write rfl rfl
theorem dX5_write_41 : decode cX5_write 41 = .ok (.ifCond .ne 16, 3) := g_154 16 bX5_write rfl rfl
theorem dX5_write_54 : decode cX5_write 54 = .ok (.if_icmp .ge 10, 3) := g_162 10 bX5_write rfl rfl
theorem dX5_write_58 : decode cX5_write 58 = .ok (.bipush (-5), 2) := g_16 251 bX5_write rfl rfl
theorem dX5_back_4 : decode cX5_back 4 = .ok (.ifCond .ne 10, 3) := g_154 10 bX5_back rfl rfl
theorem dX5_back_8 : decode cX5_back 8 = .ok (.bipush (-5), 2) := g_16 251 bX5_back rfl rfl
theorem dX5_bear_9 : decode cX5_bear 9 = .ok (.ifCond .ne 10, 3) := g_154 10 bX5_bear rfl rfl
theorem dX5_bear_13 : decode cX5_bear 13 = .ok (.bipush (-2), 2) := g_16 254 bX5_bear rfl rfl
theorem dX5_bear_46 : decode cX5_bear 46 = .ok (.if_icmp .ge 61, 3) := g_162 61 bX5_bear rfl rfl
theorem dX5_bear_59 : decode cX5_bear 59 = .ok (.if_icmp .ge 7, 3) := g_162 7 bX5_bear rfl rfl
theorem dX5_bear_63 : decode cX5_bear 63 = .ok (.goto 4, 3) := g_167 4 bX5_bear rfl rfl
theorem dX5_bear_75 : decode cX5_bear 75 = .ok (.ifCond .ne 26, 3) := g_154 26 bX5_bear rfl rfl
theorem dX5_bear_80 : decode cX5_bear 80 = .ok (.ifCond .eq 21, 3) := g_153 21 bX5_bear rfl rfl
theorem dX5_bear_94 : decode cX5_bear 94 = .ok (.if_icmp .ne 7, 3) := g_160 7 bX5_bear rfl rfl
theorem dX5_bear_101 : decode cX5_bear 101 = .ok (.iinc 5 1, 3) := g_132 1 bX5_bear rfl rfl
theorem dX5_bear_104 : decode cX5_bear 104 = .ok (.goto (-61), 3) := g_167 65475 bX5_bear rfl rfl
theorem dX5_firstWrong_18 : decode cX5_firstWrong 18 = .ok (.if_icmp .ge 96, 3) := g_162 96 bX5_firstWrong rfl rfl
theorem dX5_firstWrong_42 : decode cX5_firstWrong 42 = .ok (.ifCond .ne 6, 3) := g_154 6 bX5_firstWrong rfl rfl
theorem dX5_firstWrong_51 : decode cX5_firstWrong 51 = .ok (.bipush 100, 2) := g_16 100 bX5_firstWrong rfl rfl
theorem dX5_firstWrong_59 : decode cX5_firstWrong 59 = .ok (.bipush 100, 2) := g_16 100 bX5_firstWrong rfl rfl
theorem dX5_firstWrong_73 : decode cX5_firstWrong 73 = .ok (.ifCond .eq 24, 3) := g_153 24 bX5_firstWrong rfl rfl
theorem dX5_firstWrong_82 : decode cX5_firstWrong 82 = .ok (.ifCond .eq 15, 3) := g_153 15 bX5_firstWrong rfl rfl
theorem dX5_firstWrong_94 : decode cX5_firstWrong 94 = .ok (.ifCond .eq 6, 3) := g_153 6 bX5_firstWrong rfl rfl
theorem dX5_firstWrong_108 : decode cX5_firstWrong 108 = .ok (.iinc 4 1, 3) := g_132 1 bX5_firstWrong rfl rfl
theorem dX5_firstWrong_111 : decode cX5_firstWrong 111 = .ok (.goto (-96), 3) := g_167 65440 bX5_firstWrong rfl rfl
theorem dX5_gains_9 : decode cX5_gains 9 = .ok (.ifCond .eq 11, 3) := g_153 11 bX5_gains rfl rfl
theorem dX5_gains_17 : decode cX5_gains 17 = .ok (.goto 5, 3) := g_167 5 bX5_gains rfl rfl
theorem dX5_gains_20 : decode cX5_gains 20 = .ok (.bipush (-2), 2) := g_16 254 bX5_gains rfl rfl
theorem dX5_gains_24 : decode cX5_gains 24 = .ok (.ifCond .eq 13, 3) := g_153 13 bX5_gains rfl rfl
theorem dX5_hangs_24 : decode cX5_hangs 24 = .ok (.if_icmp .ge 52, 3) := g_162 52 bX5_hangs rfl rfl
theorem dX5_hangs_33 : decode cX5_hangs 33 = .ok (.ifCond .eq 37, 3) := g_153 37 bX5_hangs rfl rfl
theorem dX5_hangs_55 : decode cX5_hangs 55 = .ok (.if_icmp .eq 9, 3) := g_159 9 bX5_hangs rfl rfl
theorem dX5_hangs_61 : decode cX5_hangs 61 = .ok (.if_icmp .ge 9, 3) := g_162 9 bX5_hangs rfl rfl
theorem dX5_hangs_70 : decode cX5_hangs 70 = .ok (.iinc 4 1, 3) := g_132 1 bX5_hangs rfl rfl
theorem dX5_hangs_73 : decode cX5_hangs 73 = .ok (.goto (-58), 3) := g_167 65478 bX5_hangs rfl rfl
theorem dX5_hangs_78 : decode cX5_hangs 78 = .ok (.if_icmp .ne 12, 3) := g_160 12 bX5_hangs rfl rfl
theorem dX5_hangs_82 : decode cX5_hangs 82 = .ok (.bipush (-5), 2) := g_16 251 bX5_hangs rfl rfl
theorem dX5_hangs_87 : decode cX5_hangs 87 = .ok (.goto 4, 3) := g_167 4 bX5_hangs rfl rfl
theorem dX5_head_9 : decode cX5_head 9 = .ok (.ifCond .ne 10, 3) := g_154 10 bX5_head rfl rfl
theorem dX5_head_13 : decode cX5_head 13 = .ok (.bipush (-2), 2) := g_16 254 bX5_head rfl rfl
theorem dX5_head_28 : decode cX5_head 28 = .ok (.bipush 8, 2) := g_16 8 bX5_head rfl rfl
theorem dX5_head_30 : decode cX5_head 30 = .ok (.if_icmp .ge 75, 3) := g_162 75 bX5_head rfl rfl
theorem dX5_head_39 : decode cX5_head 39 = .ok (.ifCond .ne 60, 3) := g_154 60 bX5_head rfl rfl
theorem dX5_head_84 : decode cX5_head 84 = .ok (.if_icmp .eq 9, 3) := g_159 9 bX5_head rfl rfl
theorem dX5_head_90 : decode cX5_head 90 = .ok (.if_icmp .le 9, 3) := g_164 9 bX5_head rfl rfl
theorem dX5_head_99 : decode cX5_head 99 = .ok (.iinc 4 1, 3) := g_132 1 bX5_head rfl rfl
theorem dX5_head_102 : decode cX5_head 102 = .ok (.goto (-76), 3) := g_167 65460 bX5_head rfl rfl
theorem dX5_head_107 : decode cX5_head 107 = .ok (.if_icmp .ne 12, 3) := g_160 12 bX5_head rfl rfl
theorem dX5_head_111 : decode cX5_head 111 = .ok (.bipush (-5), 2) := g_16 251 bX5_head rfl rfl
theorem dX5_head_116 : decode cX5_head 116 = .ok (.goto 4, 3) := g_167 4 bX5_head rfl rfl
theorem dX5_judge_8 : decode cX5_judge 8 = .ok (.ifCond .ne 12, 3) := g_154 12 bX5_judge rfl rfl
theorem dX5_judge_17 : decode cX5_judge 17 = .ok (.goto 8, 3) := g_167 8 bX5_judge rfl rfl
theorem dX5_keeping_8 : decode cX5_keeping 8 = .ok (.ifCond .eq 17, 3) := g_153 17 bX5_keeping rfl rfl
theorem dX5_keeping_22 : decode cX5_keeping 22 = .ok (.ifCond .ne 14, 3) := g_154 14 bX5_keeping rfl rfl
theorem dX5_keeping_26 : decode cX5_keeping 26 = .ok (.bipush (-2), 2) := g_16 254 bX5_keeping rfl rfl
theorem dX5_keeping_47 : decode cX5_keeping 47 = .ok (.ifCond .ne 23, 3) := g_154 23 bX5_keeping rfl rfl
theorem dX5_keeping_63 : decode cX5_keeping 63 = .ok (.ifCond .eq 7, 3) := g_153 7 bX5_keeping rfl rfl
theorem dX5_keeping_67 : decode cX5_keeping 67 = .ok (.goto 4, 3) := g_167 4 bX5_keeping rfl rfl
theorem dX5_keeping_73 : decode cX5_keeping 73 = .ok (.ifCond .eq 13, 3) := g_153 13 bX5_keeping rfl rfl
theorem dX5_keeping_83 : decode cX5_keeping 83 = .ok (.goto 13, 3) := g_167 13 bX5_keeping rfl rfl
theorem dX5_keeping_87 : decode cX5_keeping 87 = .ok (.bipush (-5), 2) := g_16 251 bX5_keeping rfl rfl
theorem dX5_left_5 : decode cX5_left 5 = .ok (.ifCond .eq 15, 3) := g_153 15 bX5_left rfl rfl
theorem dX5_left_17 : decode cX5_left 17 = .ok (.ifCond .ne 10, 3) := g_154 10 bX5_left rfl rfl
theorem dX5_left_21 : decode cX5_left 21 = .ok (.bipush (-2), 2) := g_16 254 bX5_left rfl rfl
theorem dX5_left_36 : decode cX5_left 36 = .ok (.if_icmp .ge 17, 3) := g_162 17 bX5_left rfl rfl
theorem dX5_left_47 : decode cX5_left 47 = .ok (.iinc 5 1, 3) := g_132 1 bX5_left rfl rfl
theorem dX5_left_50 : decode cX5_left 50 = .ok (.goto (-17), 3) := g_167 65519 bX5_left rfl rfl
theorem dX5_longest_5 : decode cX5_longest 5 = .ok (.ifCond .eq 15, 3) := g_153 15 bX5_longest rfl rfl
theorem dX5_longest_17 : decode cX5_longest 17 = .ok (.ifCond .ne 10, 3) := g_154 10 bX5_longest rfl rfl
theorem dX5_longest_21 : decode cX5_longest 21 = .ok (.bipush (-2), 2) := g_16 254 bX5_longest rfl rfl
theorem dX5_longest_36 : decode cX5_longest 36 = .ok (.if_icmp .lt 24, 3) := g_161 24 bX5_longest rfl rfl
theorem dX5_longest_41 : decode cX5_longest 41 = .ok (.bipush 99, 2) := g_16 99 bX5_longest rfl rfl
theorem dX5_longest_43 : decode cX5_longest 43 = .ok (.if_icmp .ge 17, 3) := g_162 17 bX5_longest rfl rfl
theorem dX5_longest_46 : decode cX5_longest 46 = .ok (.iinc 4 1, 3) := g_132 1 bX5_longest rfl rfl
theorem dX5_longest_57 : decode cX5_longest 57 = .ok (.goto (-24), 3) := g_167 65512 bX5_longest rfl rfl
theorem dX5_lost_9 : decode cX5_lost 9 = .ok (.ifCond .eq 34, 3) := g_153 34 bX5_lost rfl rfl
theorem dX5_lost_40 : decode cX5_lost 40 = .ok (.goto 9, 3) := g_167 9 bX5_lost rfl rfl
theorem dX5_lost_44 : decode cX5_lost 44 = .ok (.bipush (-2), 2) := g_16 254 bX5_lost rfl rfl
theorem dX5_needs_8 : decode cX5_needs 8 = .ok (.ifCond .ne 10, 3) := g_154 10 bX5_needs rfl rfl
theorem dX5_needs_12 : decode cX5_needs 12 = .ok (.bipush (-2), 2) := g_16 254 bX5_needs rfl rfl
theorem dX5_needs_19 : decode cX5_needs 19 = .ok (.ifCond .eq 14, 3) := g_153 14 bX5_needs rfl rfl
theorem dX5_needs_30 : decode cX5_needs 30 = .ok (.goto 11, 3) := g_167 11 bX5_needs rfl rfl
theorem dX5_next_14 : decode cX5_next 14 = .ok (.if_icmp .ge 48, 3) := g_162 48 bX5_next rfl rfl
theorem dX5_next_28 : decode cX5_next 28 = .ok (.ifCond .eq 7, 3) := g_153 7 bX5_next rfl rfl
theorem dX5_next_32 : decode cX5_next 32 = .ok (.goto 11, 3) := g_167 11 bX5_next rfl rfl
theorem dX5_next_48 : decode cX5_next 48 = .ok (.if_icmp .le 8, 3) := g_164 8 bX5_next rfl rfl
theorem dX5_next_56 : decode cX5_next 56 = .ok (.iinc 3 1, 3) := g_132 1 bX5_next rfl rfl
theorem dX5_next_59 : decode cX5_next 59 = .ok (.goto (-53), 3) := g_167 65483 bX5_next rfl rfl
theorem dX5_order_27 : decode cX5_order 27 = .ok (.ifCond .eq 18, 3) := g_153 18 bX5_order rfl rfl
theorem dX5_order_42 : decode cX5_order 42 = .ok (.ifCond .ne 10, 3) := g_154 10 bX5_order rfl rfl
theorem dX5_order_46 : decode cX5_order 46 = .ok (.bipush (-2), 2) := g_16 254 bX5_order rfl rfl
theorem dX5_order_63 : decode cX5_order 63 = .ok (.ifCond .ne 8, 3) := g_154 8 bX5_order rfl rfl
theorem dX5_order_68 : decode cX5_order 68 = .ok (.if_icmp .le 10, 3) := g_164 10 bX5_order rfl rfl
theorem dX5_order_72 : decode cX5_order 72 = .ok (.bipush (-5), 2) := g_16 251 bX5_order rfl rfl
theorem dX5_order_80 : decode cX5_order 80 = .ok (.if_icmp .ne 18, 3) := g_160 18 bX5_order rfl rfl
theorem dX5_order_95 : decode cX5_order 95 = .ok (.goto 11, 3) := g_167 11 bX5_order rfl rfl
theorem dX5_run_9 : decode cX5_run 9 = .ok (.ifCond .eq 23, 3) := g_153 23 bX5_run rfl rfl
theorem dX5_run_21 : decode cX5_run 21 = .ok (.ifCond .eq 11, 3) := g_153 11 bX5_run rfl rfl
theorem dX5_run_29 : decode cX5_run 29 = .ok (.goto 5, 3) := g_167 5 bX5_run rfl rfl
theorem dX5_run_32 : decode cX5_run 32 = .ok (.bipush (-2), 2) := g_16 254 bX5_run rfl rfl
theorem dX5_run_38 : decode cX5_run 38 = .ok (.ifCond .eq 10, 3) := g_153 10 bX5_run rfl rfl
theorem dX5_run_87 : decode cX5_run 87 = .ok (.tableswitch 50 0 2 #[25, 28, 36], 25) := by decide +kernel
theorem dX5_status_11 : decode cX5_status 11 = .ok (.ifCond .eq 13, 3) := g_153 13 bX5_status rfl rfl
theorem dX5_status_19 : decode cX5_status 19 = .ok (.bipush 12, 2) := g_16 12 bX5_status rfl rfl
theorem dX5_status_25 : decode cX5_status 25 = .ok (.tableswitch 123 0 8 #[51, 59, 70, 78, 89, 94, 99, 107, 115], 51) := by decide +kernel
theorem dX5_teach_6 : decode cX5_teach 6 = .ok (.ifCond .ne 10, 3) := g_154 10 bX5_teach rfl rfl
theorem dX5_teach_10 : decode cX5_teach 10 = .ok (.bipush (-2), 2) := g_16 254 bX5_teach rfl rfl
theorem dX5_teach_27 : decode cX5_teach 27 = .ok (.ifCond .eq 10, 3) := g_153 10 bX5_teach rfl rfl
theorem dX5_teach_31 : decode cX5_teach 31 = .ok (.bipush (-5), 2) := g_16 251 bX5_teach rfl rfl
theorem dX5_teach_54 : decode cX5_teach 54 = .ok (.if_icmp .ge 61, 3) := g_162 61 bX5_teach rfl rfl
theorem dX5_teach_60 : decode cX5_teach 60 = .ok (.if_icmp .eq 18, 3) := g_159 18 bX5_teach rfl rfl
theorem dX5_teach_75 : decode cX5_teach 75 = .ok (.ifCond .eq 7, 3) := g_153 7 bX5_teach rfl rfl
theorem dX5_teach_79 : decode cX5_teach 79 = .ok (.goto 14, 3) := g_167 14 bX5_teach rfl rfl
theorem dX5_teach_99 : decode cX5_teach 99 = .ok (.if_icmp .le 10, 3) := g_164 10 bX5_teach rfl rfl
theorem dX5_teach_109 : decode cX5_teach 109 = .ok (.iinc 5 1, 3) := g_132 1 bX5_teach rfl rfl
theorem dX5_teach_112 : decode cX5_teach 112 = .ok (.goto (-67), 3) := g_167 65469 bX5_teach rfl rfl
theorem dX5_told_8 : decode cX5_told 8 = .ok (.ifCond .ne 16, 3) := g_154 16 bX5_told rfl rfl
theorem dX5_told_18 : decode cX5_told 18 = .ok (.if_icmp .eq 6, 3) := g_159 6 bX5_told rfl rfl
theorem dX5_told_21 : decode cX5_told 21 = .ok (.bipush (-5), 2) := g_16 251 bX5_told rfl rfl
theorem dX5_told_25 : decode cX5_told 25 = .ok (.ifCond .ne 16, 3) := g_154 16 bX5_told rfl rfl
theorem dX5_told_38 : decode cX5_told 38 = .ok (.goto 8, 3) := g_167 8 bX5_told rfl rfl
theorem dX5_two_8 : decode cX5_two 8 = .ok (.ifCond .eq 14, 3) := g_153 14 bX5_two rfl rfl
theorem dX5_two_19 : decode cX5_two 19 = .ok (.ifCond .ne 10, 3) := g_154 10 bX5_two rfl rfl
theorem dX5_two_23 : decode cX5_two 23 = .ok (.bipush (-2), 2) := g_16 254 bX5_two rfl rfl
theorem dX5_who_8 : decode cX5_who 8 = .ok (.ifCond .eq 15, 3) := g_153 15 bX5_who rfl rfl
theorem dX5_who_20 : decode cX5_who 20 = .ok (.ifCond .ne 10, 3) := g_154 10 bX5_who rfl rfl
theorem dX5_who_24 : decode cX5_who 24 = .ok (.bipush (-2), 2) := g_16 254 bX5_who rfl rfl
theorem dX5_who_41 : decode cX5_who 41 = .ok (.ifCond .ne 13, 3) := g_154 13 bX5_who rfl rfl
theorem dX5_who_51 : decode cX5_who 51 = .ok (.ifCond .ne 10, 3) := g_154 10 bX5_who rfl rfl
theorem dX5_who_55 : decode cX5_who 55 = .ok (.bipush (-5), 2) := g_16 251 bX5_who rfl rfl
theorem dX5_years_9 : decode cX5_years 9 = .ok (.ifCond .eq 11, 3) := g_153 11 bX5_years rfl rfl
theorem dX5_years_17 : decode cX5_years 17 = .ok (.goto 5, 3) := g_167 5 bX5_years rfl rfl
theorem dX5_years_20 : decode cX5_years 20 = .ok (.bipush (-2), 2) := g_16 254 bX5_years rfl rfl
theorem dX5_years_24 : decode cX5_years 24 = .ok (.ifCond .eq 9, 3) := g_153 9 bX5_years rfl rfl
theorem dX5_years_42 : decode cX5_years 42 = .ok (.if_icmp .ge 71, 3) := g_162 71 bX5_years rfl rfl
theorem dX5_years_107 : decode cX5_years 107 = .ok (.iinc 5 1, 3) := g_132 1 bX5_years rfl rfl
theorem dX5_years_110 : decode cX5_years 110 = .ok (.goto (-71), 3) := g_167 65465 bX5_years rfl rfl
theorem dX5_youngest_8 : decode cX5_youngest 8 = .ok (.ifCond .eq 14, 3) := g_153 14 bX5_youngest rfl rfl
theorem dX5_youngest_19 : decode cX5_youngest 19 = .ok (.goto 9, 3) := g_167 9 bX5_youngest rfl rfl
theorem dX5_youngest_23 : decode cX5_youngest 23 = .ok (.bipush (-2), 2) := g_16 254 bX5_youngest rfl rfl
theorem dJ0_charAt_5068e_4 : decode cJ0_charAt_5068e 4 = .ok (.ifCond .eq 12, 3) := g_153 12 bJ0_charAt_5068e rfl rfl
theorem dJ0_coder_7d493_3 : decode cJ0_coder_7d493 3 = .ok (.ifCond .eq 10, 3) := g_153 10 bJ0_coder_7d493 rfl rfl
theorem dJ0_coder_7d493_10 : decode cJ0_coder_7d493 10 = .ok (.goto 4, 3) := g_167 4 bJ0_coder_7d493 rfl rfl
theorem dJ0_isLatin1_aae02_3 : decode cJ0_isLatin1_aae02 3 = .ok (.ifCond .eq 14, 3) := g_153 14 bJ0_isLatin1_aae02 rfl rfl
theorem dJ0_isLatin1_aae02_10 : decode cJ0_isLatin1_aae02 10 = .ok (.ifCond .ne 7, 3) := g_154 7 bJ0_isLatin1_aae02 rfl rfl
theorem dJ0_isLatin1_aae02_14 : decode cJ0_isLatin1_aae02 14 = .ok (.goto 4, 3) := g_167 4 bJ0_isLatin1_aae02 rfl rfl
theorem dJ1_charAt_3b067_9 : decode cJ1_charAt_3b067 9 = .ok (.sipush 255, 3) := g_17 255 bJ1_charAt_3b067 rfl rfl
theorem dJ3_checkIndex_8e157_1 : decode cJ3_checkIndex_8e157 1 = .ok (.ifCond .lt 8, 3) := g_155 8 bJ3_checkIndex_8e157 rfl rfl
theorem dJ3_checkIndex_8e157_6 : decode cJ3_checkIndex_8e157 6 = .ok (.if_icmp .lt 10, 3) := g_161 10 bJ3_checkIndex_8e157 rfl rfl
theorem dX3_fail_5 : decode cX3_fail 5 = .ok (.if_icmp .ne 11, 3) := g_160 11 bX3_fail rfl rfl
theorem dX3_isWord_5 : decode cX3_isWord 5 = .ok (.if_icmp .ne 19, 3) := g_160 19 bX3_isWord rfl rfl
theorem dX3_isWord_21 : decode cX3_isWord 21 = .ok (.if_icmp .eq 5, 3) := g_159 5 bX3_isWord rfl rfl
theorem dX3_isWord_33 : decode cX3_isWord 33 = .ok (.if_icmp .ge 30, 3) := g_162 30 bX3_isWord rfl rfl
theorem dX3_isWord_52 : decode cX3_isWord 52 = .ok (.if_icmp .eq 5, 3) := g_159 5 bX3_isWord rfl rfl
theorem dX3_isWord_57 : decode cX3_isWord 57 = .ok (.iinc 2 1, 3) := g_132 1 bX3_isWord rfl rfl
theorem dX3_isWord_60 : decode cX3_isWord 60 = .ok (.goto (-32), 3) := g_167 65504 bX3_isWord rfl rfl
theorem dX3_numberThere_5 : decode cX3_numberThere 5 = .ok (.if_icmp .ne 16, 3) := g_160 16 bX3_numberThere rfl rfl
theorem dX3_numberThere_18 : decode cX3_numberThere 18 = .ok (.if_icmp .le 5, 3) := g_164 5 bX3_numberThere rfl rfl
theorem dX3_numberThere_35 : decode cX3_numberThere 35 = .ok (.if_icmp .ge 24, 3) := g_162 24 bX3_numberThere rfl rfl
theorem dX3_numberThere_38 : decode cX3_numberThere 38 = .ok (.bipush 10, 2) := g_16 10 bX3_numberThere rfl rfl
theorem dX3_numberThere_49 : decode cX3_numberThere 49 = .ok (.bipush 48, 2) := g_16 48 bX3_numberThere rfl rfl
theorem dX3_numberThere_53 : decode cX3_numberThere 53 = .ok (.iinc 2 1, 3) := g_132 1 bX3_numberThere rfl rfl
theorem dX3_numberThere_56 : decode cX3_numberThere 56 = .ok (.goto (-26), 3) := g_167 65510 bX3_numberThere rfl rfl
theorem dX3_passes_5 : decode cX3_passes 5 = .ok (.if_icmp .ne 11, 3) := g_160 11 bX3_passes rfl rfl
theorem dX3_passes_13 : decode cX3_passes 13 = .ok (.ifCond .ne 5, 3) := g_154 5 bX3_passes rfl rfl
theorem dX3_readBook_7 : decode cX3_readBook 7 = .ok (.bipush 8, 2) := g_16 8 bX3_readBook rfl rfl
theorem dX3_readBook_9 : decode cX3_readBook 9 = .ok (.if_icmp .lt 8, 3) := g_161 8 bX3_readBook rfl rfl
theorem dX3_readBook_23 : decode cX3_readBook 23 = .ok (.bipush 99, 2) := g_16 99 bX3_readBook rfl rfl
theorem dX3_readBook_35 : decode cX3_readBook 35 = .ok (.ifCond .eq 14, 3) := g_153 14 bX3_readBook rfl rfl
theorem dX3_readBook_40 : decode cX3_readBook 40 = .ok (.sipush 1000, 3) := g_17 1000 bX3_readBook rfl rfl
theorem dX3_readBook_46 : decode cX3_readBook 46 = .ok (.goto 6, 3) := g_167 6 bX3_readBook rfl rfl
theorem dX3_readBook_49 : decode cX3_readBook 49 = .ok (.sipush 1000, 3) := g_17 1000 bX3_readBook rfl rfl
theorem dX3_readBook_58 : decode cX3_readBook 58 = .ok (.if_icmp .ne 21, 3) := g_160 21 bX3_readBook rfl rfl
theorem dX3_readFrom_25 : decode cX3_readFrom 25 = .ok (.sipush 250, 3) := g_17 250 bX3_readFrom rfl rfl
theorem dX3_readFrom_28 : decode cX3_readFrom 28 = .ok (.if_icmp .gt 48, 3) := g_163 48 bX3_readFrom rfl rfl
theorem dX3_readFrom_40 : decode cX3_readFrom 40 = .ok (.if_icmp .ne 10, 3) := g_160 10 bX3_readFrom rfl rfl
theorem dX3_readFrom_47 : decode cX3_readFrom 47 = .ok (.ifCond .ne 5, 3) := g_154 5 bX3_readFrom rfl rfl
theorem dX3_readFrom_57 : decode cX3_readFrom 57 = .ok (.if_icmp .eq 9, 3) := g_159 9 bX3_readFrom rfl rfl
theorem dX3_readFrom_70 : decode cX3_readFrom 70 = .ok (.iinc 2 1, 3) := g_132 1 bX3_readFrom rfl rfl
theorem dX3_readFrom_73 : decode cX3_readFrom 73 = .ok (.goto (-49), 3) := g_167 65487 bX3_readFrom rfl rfl
theorem dX3_readKnows_36 : decode cX3_readKnows 36 = .ok (.sipush 1000, 3) := g_17 1000 bX3_readKnows rfl rfl
theorem dX3_readKnows_48 : decode cX3_readKnows 48 = .ok (.if_icmp .ne 13, 3) := g_160 13 bX3_readKnows rfl rfl
theorem dX3_readNeed_33 : decode cX3_readNeed 33 = .ok (.if_icmp .ne 18, 3) := g_160 18 bX3_readNeed rfl rfl
theorem dX3_readOne_7 : decode cX3_readOne 7 = .ok (.bipush 8, 2) := g_16 8 bX3_readOne rfl rfl
theorem dX3_readOne_9 : decode cX3_readOne 9 = .ok (.if_icmp .lt 8, 3) := g_161 8 bX3_readOne rfl rfl
theorem dX3_readOne_23 : decode cX3_readOne 23 = .ok (.bipush 9, 2) := g_16 9 bX3_readOne rfl rfl
theorem dX3_readOne_35 : decode cX3_readOne 35 = .ok (.ifCond .eq 13, 3) := g_153 13 bX3_readOne rfl rfl
theorem dX3_readOne_40 : decode cX3_readOne 40 = .ok (.bipush 10, 2) := g_16 10 bX3_readOne rfl rfl
theorem dX3_readOne_45 : decode cX3_readOne 45 = .ok (.goto 4, 3) := g_167 4 bX3_readOne rfl rfl
theorem dX3_readOne_56 : decode cX3_readOne 56 = .ok (.ifCond .eq 13, 3) := g_153 13 bX3_readOne rfl rfl
theorem dX3_readOne_61 : decode cX3_readOne 61 = .ok (.bipush 10, 2) := g_16 10 bX3_readOne rfl rfl
theorem dX3_readOne_66 : decode cX3_readOne 66 = .ok (.goto 4, 3) := g_167 4 bX3_readOne rfl rfl
theorem dX3_readOne_77 : decode cX3_readOne 77 = .ok (.ifCond .eq 13, 3) := g_153 13 bX3_readOne rfl rfl
theorem dX3_readOne_82 : decode cX3_readOne 82 = .ok (.bipush 10, 2) := g_16 10 bX3_readOne rfl rfl
theorem dX3_readOne_87 : decode cX3_readOne 87 = .ok (.goto 4, 3) := g_167 4 bX3_readOne rfl rfl
theorem dX3_readOne_98 : decode cX3_readOne 98 = .ok (.if_icmp .ne 16, 3) := g_160 16 bX3_readOne rfl rfl
theorem dX3_readStatement_6 : decode cX3_readStatement 6 = .ok (.ifCond .eq 10, 3) := g_153 10 bX3_readStatement rfl rfl
theorem dX3_readStatement_13 : decode cX3_readStatement 13 = .ok (.goto 71, 3) := g_167 71 bX3_readStatement rfl rfl
theorem dX3_readStatement_22 : decode cX3_readStatement 22 = .ok (.ifCond .eq 10, 3) := g_153 10 bX3_readStatement rfl rfl
theorem dX3_readStatement_29 : decode cX3_readStatement 29 = .ok (.goto 55, 3) := g_167 55 bX3_readStatement rfl rfl
theorem dX3_readStatement_38 : decode cX3_readStatement 38 = .ok (.ifCond .eq 10, 3) := g_153 10 bX3_readStatement rfl rfl
theorem dX3_readStatement_45 : decode cX3_readStatement 45 = .ok (.goto 39, 3) := g_167 39 bX3_readStatement rfl rfl
theorem dX3_readStatement_54 : decode cX3_readStatement 54 = .ok (.ifCond .eq 10, 3) := g_153 10 bX3_readStatement rfl rfl
theorem dX3_readStatement_61 : decode cX3_readStatement 61 = .ok (.goto 23, 3) := g_167 23 bX3_readStatement rfl rfl
theorem dX3_readStatement_70 : decode cX3_readStatement 70 = .ok (.ifCond .eq 10, 3) := g_153 10 bX3_readStatement rfl rfl
theorem dX3_readStatement_77 : decode cX3_readStatement 77 = .ok (.goto 7, 3) := g_167 7 bX3_readStatement rfl rfl
theorem dX3_readWhite_24 : decode cX3_readWhite 24 = .ok (.if_icmp .ne 18, 3) := g_160 18 bX3_readWhite rfl rfl
theorem dX3_sortAt_5 : decode cX3_sortAt 5 = .ok (.if_icmp .lt 5, 3) := g_161 5 bX3_sortAt rfl rfl
theorem dX3_sortAt_18 : decode cX3_sortAt 18 = .ok (.bipush 97, 2) := g_16 97 bX3_sortAt rfl rfl
theorem dX3_sortAt_20 : decode cX3_sortAt 20 = .ok (.if_icmp .lt 11, 3) := g_161 11 bX3_sortAt rfl rfl
theorem dX3_sortAt_24 : decode cX3_sortAt 24 = .ok (.bipush 122, 2) := g_16 122 bX3_sortAt rfl rfl
theorem dX3_sortAt_26 : decode cX3_sortAt 26 = .ok (.if_icmp .gt 5, 3) := g_163 5 bX3_sortAt rfl rfl
theorem dX3_sortAt_32 : decode cX3_sortAt 32 = .ok (.bipush 48, 2) := g_16 48 bX3_sortAt rfl rfl
theorem dX3_sortAt_34 : decode cX3_sortAt 34 = .ok (.if_icmp .lt 11, 3) := g_161 11 bX3_sortAt rfl rfl
theorem dX3_sortAt_38 : decode cX3_sortAt 38 = .ok (.bipush 57, 2) := g_16 57 bX3_sortAt rfl rfl
theorem dX3_sortAt_40 : decode cX3_sortAt 40 = .ok (.if_icmp .gt 5, 3) := g_163 5 bX3_sortAt rfl rfl
theorem dX3_sortAt_46 : decode cX3_sortAt 46 = .ok (.bipush 59, 2) := g_16 59 bX3_sortAt rfl rfl
theorem dX3_sortAt_48 : decode cX3_sortAt 48 = .ok (.if_icmp .ne 7, 3) := g_160 7 bX3_sortAt rfl rfl
theorem dX3_sortAt_52 : decode cX3_sortAt 52 = .ok (.goto 4, 3) := g_167 4 bX3_sortAt rfl rfl
theorem dX3_step_16 : decode cX3_step 16 = .ok (.if_icmp .ge 30, 3) := g_162 30 bX3_step rfl rfl
theorem dX3_step_28 : decode cX3_step 28 = .ok (.bipush 32, 2) := g_16 32 bX3_step rfl rfl
theorem dX3_step_30 : decode cX3_step 30 = .ok (.if_icmp .ne 16, 3) := g_160 16 bX3_step rfl rfl
theorem dX3_step_43 : decode cX3_step 43 = .ok (.goto (-35), 3) := g_167 65501 bX3_step rfl rfl
theorem dX3_step_63 : decode cX3_step 63 = .ok (.ifCond .ne 10, 3) := g_154 10 bX3_step rfl rfl
theorem dX3_step_70 : decode cX3_step 70 = .ok (.goto 9, 3) := g_167 9 bX3_step rfl rfl
theorem dX3_step_87 : decode cX3_step 87 = .ok (.if_icmp .eq 11, 3) := g_159 11 bX3_step rfl rfl
theorem dX3_step_95 : decode cX3_step 95 = .ok (.if_icmp .ne 7, 3) := g_160 7 bX3_step rfl rfl
theorem dX3_step_99 : decode cX3_step 99 = .ok (.goto 4, 3) := g_167 4 bX3_step rfl rfl
theorem dX3_step_105 : decode cX3_step 105 = .ok (.ifCond .eq 42, 3) := g_153 42 bX3_step rfl rfl
theorem dX3_step_116 : decode cX3_step 116 = .ok (.if_icmp .ge 31, 3) := g_162 31 bX3_step rfl rfl
theorem dX3_step_131 : decode cX3_step 131 = .ok (.if_icmp .ne 16, 3) := g_160 16 bX3_step rfl rfl
theorem dX3_step_144 : decode cX3_step 144 = .ok (.goto (-40), 3) := g_167 65496 bX3_step rfl rfl
theorem dX3_takeNumber_10 : decode cX3_takeNumber 10 = .ok (.if_icmp .ne 13, 3) := g_160 13 bX3_takeNumber rfl rfl
theorem dX3_takeNumber_15 : decode cX3_takeNumber 15 = .ok (.if_icmp .lt 8, 3) := g_161 8 bX3_takeNumber rfl rfl
theorem dX3_takeNumber_20 : decode cX3_takeNumber 20 = .ok (.if_icmp .le 9, 3) := g_164 9 bX3_takeNumber rfl rfl
theorem dX5_town_28 : decode cX5_town 28 = .ok (.if_icmp .eq 21, 3) := g_159 21 bX5_town rfl rfl
theorem dX5_town_32 : decode cX5_town 32 = .ok (.bipush (-2), 2) := g_16 254 bX5_town rfl rfl
theorem dX5_town_38 : decode cX5_town 38 = .ok (.bipush (-20), 2) := g_16 236 bX5_town rfl rfl
theorem dX6_bits_5 : decode cX6_bits 5 = .ok (.bipush 8, 2) := g_16 8 bX6_bits rfl rfl
theorem dX6_bits_7 : decode cX6_bits 7 = .ok (.if_icmp .ge 17, 3) := g_162 17 bX6_bits rfl rfl
theorem dX6_bits_18 : decode cX6_bits 18 = .ok (.iinc 2 1, 3) := g_132 1 bX6_bits rfl rfl
theorem dX6_bits_21 : decode cX6_bits 21 = .ok (.goto (-17), 3) := g_167 65519 bX6_bits rfl rfl
theorem dX6_byGround_7 : decode cX6_byGround 7 = .ok (.sipush 1000, 3) := g_17 1000 bX6_byGround rfl rfl
theorem dX6_byGround_12 : decode cX6_byGround 12 = .ok (.sipush 2000, 3) := g_17 2000 bX6_byGround rfl rfl
theorem dX6_greatest_11 : decode cX6_greatest 11 = .ok (.if_icmp .ge 54, 3) := g_162 54 bX6_greatest rfl rfl
theorem dX6_greatest_20 : decode cX6_greatest 20 = .ok (.ifCond .eq 37, 3) := g_153 37 bX6_greatest rfl rfl
theorem dX6_greatest_29 : decode cX6_greatest 29 = .ok (.ifCond .eq 28, 3) := g_153 28 bX6_greatest rfl rfl
theorem dX6_greatest_42 : decode cX6_greatest 42 = .ok (.if_icmp .le 15, 3) := g_164 15 bX6_greatest rfl rfl
theorem dX6_greatest_54 : decode cX6_greatest 54 = .ok (.goto 4, 3) := g_167 4 bX6_greatest rfl rfl
theorem dX6_greatest_59 : decode cX6_greatest 59 = .ok (.iinc 4 1, 3) := g_132 1 bX6_greatest rfl rfl
theorem dX6_greatest_62 : decode cX6_greatest 62 = .ok (.goto (-57), 3) := g_167 65479 bX6_greatest rfl rfl
theorem dX6_groundOf_0 : decode cX6_groundOf 0 = .ok (.sipush 1000, 3) := g_17 1000 bX6_groundOf rfl rfl
theorem dX6_groundOf_10 : decode cX6_groundOf 10 = .ok (.if_icmp .ge 64, 3) := g_162 64 bX6_groundOf rfl rfl
theorem dX6_groundOf_26 : decode cX6_groundOf 26 = .ok (.ifCond .eq 7, 3) := g_153 7 bX6_groundOf rfl rfl
theorem dX6_groundOf_30 : decode cX6_groundOf 30 = .ok (.goto 4, 3) := g_167 4 bX6_groundOf rfl rfl
theorem dX6_groundOf_38 : decode cX6_groundOf 38 = .ok (.ifCond .eq 28, 3) := g_153 28 bX6_groundOf rfl rfl
theorem dX6_groundOf_51 : decode cX6_groundOf 51 = .ok (.if_icmp .ge 15, 3) := g_162 15 bX6_groundOf rfl rfl
theorem dX6_groundOf_63 : decode cX6_groundOf 63 = .ok (.goto 4, 3) := g_167 4 bX6_groundOf rfl rfl
theorem dX6_groundOf_68 : decode cX6_groundOf 68 = .ok (.iinc 4 1, 3) := g_132 1 bX6_groundOf rfl rfl
theorem dX6_groundOf_71 : decode cX6_groundOf 71 = .ok (.goto (-64), 3) := g_167 65472 bX6_groundOf rfl rfl
theorem dX6_in_3 : decode cX6_in 3 = .ok (.ifCond .lt 14, 3) := g_155 14 bX6_in rfl rfl
theorem dX6_in_10 : decode cX6_in 10 = .ok (.ifCond .gt 7, 3) := g_157 7 bX6_in rfl rfl
theorem dX6_in_14 : decode cX6_in 14 = .ok (.goto 4, 3) := g_167 4 bX6_in rfl rfl
theorem dX6_isThere_8 : decode cX6_isThere 8 = .ok (.ifCond .ne 7, 3) := g_154 7 bX6_isThere rfl rfl
theorem dX6_isThere_12 : decode cX6_isThere 12 = .ok (.goto 4, 3) := g_167 4 bX6_isThere rfl rfl
theorem dX6_isWhite_9 : decode cX6_isWhite 9 = .ok (.if_icmp .ne 7, 3) := g_160 7 bX6_isWhite rfl rfl
theorem dX6_isWhite_13 : decode cX6_isWhite 13 = .ok (.goto 4, 3) := g_167 4 bX6_isWhite rfl rfl
theorem dX6_moreBy_17 : decode cX6_moreBy 17 = .ok (.bipush 10, 2) := g_16 10 bX6_moreBy rfl rfl
theorem dX6_moreBy_32 : decode cX6_moreBy 32 = .ok (.if_icmp .le 17, 3) := g_164 17 bX6_moreBy rfl rfl
theorem dX6_moreBy_46 : decode cX6_moreBy 46 = .ok (.goto 4, 3) := g_167 4 bX6_moreBy rfl rfl
theorem dX6_readerOf_9 : decode cX6_readerOf 9 = .ok (.if_icmp .ge 81, 3) := g_162 81 bX6_readerOf rfl rfl
theorem dX6_readerOf_17 : decode cX6_readerOf 17 = .ok (.ifCond .eq 67, 3) := g_153 67 bX6_readerOf rfl rfl
theorem dX6_readerOf_30 : decode cX6_readerOf 30 = .ok (.if_icmp .ne 7, 3) := g_160 7 bX6_readerOf rfl rfl
theorem dX6_readerOf_34 : decode cX6_readerOf 34 = .ok (.goto 9, 3) := g_167 9 bX6_readerOf rfl rfl
theorem dX6_readerOf_49 : decode cX6_readerOf 49 = .ok (.if_icmp .gt 29, 3) := g_163 29 bX6_readerOf rfl rfl
theorem dX6_readerOf_56 : decode cX6_readerOf 56 = .ok (.if_icmp .ne 26, 3) := g_160 26 bX6_readerOf rfl rfl
theorem dX6_readerOf_75 : decode cX6_readerOf 75 = .ok (.if_icmp .ge 7, 3) := g_162 7 bX6_readerOf rfl rfl
theorem dX6_readerOf_79 : decode cX6_readerOf 79 = .ok (.goto 4, 3) := g_167 4 bX6_readerOf rfl rfl
theorem dX6_readerOf_84 : decode cX6_readerOf 84 = .ok (.iinc 3 1, 3) := g_132 1 bX6_readerOf rfl rfl
theorem dX6_readerOf_87 : decode cX6_readerOf 87 = .ok (.goto (-83), 3) := g_167 65453 bX6_readerOf rfl rfl
theorem dX6_thereMany_9 : decode cX6_thereMany 9 = .ok (.if_icmp .ge 25, 3) := g_162 25 bX6_thereMany rfl rfl
theorem dX6_thereMany_18 : decode cX6_thereMany 18 = .ok (.ifCond .eq 7, 3) := g_153 7 bX6_thereMany rfl rfl
theorem dX6_thereMany_22 : decode cX6_thereMany 22 = .ok (.goto 4, 3) := g_167 4 bX6_thereMany rfl rfl
theorem dX6_thereMany_28 : decode cX6_thereMany 28 = .ok (.iinc 2 1, 3) := g_132 1 bX6_thereMany rfl rfl
theorem dX6_thereMany_31 : decode cX6_thereMany 31 = .ok (.goto (-27), 3) := g_167 65509 bX6_thereMany rfl rfl
theorem dX6_valueOf_9 : decode cX6_valueOf 9 = .ok (.if_icmp .ge 27, 3) := g_162 27 bX6_valueOf rfl rfl
theorem dX6_valueOf_30 : decode cX6_valueOf 30 = .ok (.iinc 3 1, 3) := g_132 1 bX6_valueOf rfl rfl
theorem dX6_valueOf_33 : decode cX6_valueOf 33 = .ok (.goto (-29), 3) := g_167 65507 bX6_valueOf rfl rfl
theorem dX6_whiteMany_9 : decode cX6_whiteMany 9 = .ok (.if_icmp .ge 20, 3) := g_162 20 bX6_whiteMany rfl rfl
theorem dX6_whiteMany_23 : decode cX6_whiteMany 23 = .ok (.iinc 2 1, 3) := g_132 1 bX6_whiteMany rfl rfl
theorem dX6_whiteMany_26 : decode cX6_whiteMany 26 = .ok (.goto (-22), 3) := g_167 65514 bX6_whiteMany rfl rfl
theorem dX6_wouldKnow_18 : decode cX6_wouldKnow 18 = .ok (.bipush 10, 2) := g_16 10 bX6_wouldKnow rfl rfl
theorem dX6_wouldKnow_36 : decode cX6_wouldKnow 36 = .ok (.if_icmp .le 7, 3) := g_164 7 bX6_wouldKnow rfl rfl
theorem dX6_wouldKnow_40 : decode cX6_wouldKnow 40 = .ok (.goto 11, 3) := g_167 11 bX6_wouldKnow rfl rfl
theorem dX6_youngestBut_9 : decode cX6_youngestBut 9 = .ok (.if_icmp .ge 52, 3) := g_162 52 bX6_youngestBut rfl rfl
theorem dX6_youngestBut_14 : decode cX6_youngestBut 14 = .ok (.if_icmp .eq 39, 3) := g_159 39 bX6_youngestBut rfl rfl
theorem dX6_youngestBut_22 : decode cX6_youngestBut 22 = .ok (.ifCond .eq 31, 3) := g_153 31 bX6_youngestBut rfl rfl
theorem dX6_youngestBut_27 : decode cX6_youngestBut 27 = .ok (.if_icmp .eq 22, 3) := g_159 22 bX6_youngestBut rfl rfl
theorem dX6_youngestBut_46 : decode cX6_youngestBut 46 = .ok (.if_icmp .ge 7, 3) := g_162 7 bX6_youngestBut rfl rfl
theorem dX6_youngestBut_50 : decode cX6_youngestBut 50 = .ok (.goto 4, 3) := g_167 4 bX6_youngestBut rfl rfl
theorem dX6_youngestBut_55 : decode cX6_youngestBut 55 = .ok (.iinc 3 1, 3) := g_132 1 bX6_youngestBut rfl rfl
theorem dX6_youngestBut_58 : decode cX6_youngestBut 58 = .ok (.goto (-54), 3) := g_167 65482 bX6_youngestBut rfl rfl
theorem dX6_chain_7 : decode cX6_chain 7 = .ok (.if_icmp .ge 66, 3) := g_162 66 bX6_chain rfl rfl
theorem dX6_chain_15 : decode cX6_chain 15 = .ok (.ifCond .eq 11, 3) := g_153 11 bX6_chain rfl rfl
theorem dX6_chain_23 : decode cX6_chain 23 = .ok (.goto 4, 3) := g_167 4 bX6_chain rfl rfl
theorem dX6_chain_35 : decode cX6_chain 35 = .ok (.if_icmp .ge 32, 3) := g_162 32 bX6_chain rfl rfl
theorem dX6_chain_40 : decode cX6_chain 40 = .ok (.if_icmp .eq 27, 3) := g_159 27 bX6_chain rfl rfl
theorem dX6_chain_61 : decode cX6_chain 61 = .ok (.iinc 3 1, 3) := g_132 1 bX6_chain rfl rfl
theorem dX6_chain_64 : decode cX6_chain 64 = .ok (.goto (-34), 3) := g_167 65502 bX6_chain rfl rfl
theorem dX6_chain_67 : decode cX6_chain 67 = .ok (.iinc 1 1, 3) := g_132 1 bX6_chain rfl rfl
theorem dX6_chain_70 : decode cX6_chain 70 = .ok (.goto (-68), 3) := g_167 65468 bX6_chain rfl rfl
theorem dX6_does_1 : decode cX6_does 1 = .ok (.tableswitch 74 1 5 #[35, 43, 50, 58, 64], 35) := by decide +kernel
theorem dX6_does_37 : decode cX6_does 37 = .ok (.bipush 8, 2) := g_16 8 bX6_does rfl rfl
theorem dX6_does_52 : decode cX6_does 52 = .ok (.bipush 8, 2) := g_16 8 bX6_does rfl rfl
theorem dX6_end_9 : decode cX6_end 9 = .ok (.if_icmp .ge 136, 3) := g_162 136 bX6_end rfl rfl
theorem dX6_end_17 : decode cX6_end 17 = .ok (.ifCond .eq 122, 3) := g_153 122 bX6_end rfl rfl
theorem dX6_end_40 : decode cX6_end 40 = .ok (.bipush 10, 2) := g_16 10 bX6_end rfl rfl
theorem dX6_end_42 : decode cX6_end 42 = .ok (.if_icmp .ne 7, 3) := g_160 7 bX6_end rfl rfl
theorem dX6_end_46 : decode cX6_end 46 = .ok (.goto 4, 3) := g_167 4 bX6_end rfl rfl
theorem dX6_end_59 : decode cX6_end 59 = .ok (.ifCond .eq 7, 3) := g_153 7 bX6_end rfl rfl
theorem dX6_end_63 : decode cX6_end 63 = .ok (.goto 4, 3) := g_167 4 bX6_end rfl rfl
theorem dX6_end_70 : decode cX6_end 70 = .ok (.ifCond .eq 7, 3) := g_153 7 bX6_end rfl rfl
theorem dX6_end_74 : decode cX6_end 74 = .ok (.goto 4, 3) := g_167 4 bX6_end rfl rfl
theorem dX6_end_89 : decode cX6_end 89 = .ok (.if_icmp .ge 50, 3) := g_162 50 bX6_end rfl rfl
theorem dX6_end_101 : decode cX6_end 101 = .ok (.ifCond .eq 7, 3) := g_153 7 bX6_end rfl rfl
theorem dX6_end_105 : decode cX6_end 105 = .ok (.goto 27, 3) := g_167 27 bX6_end rfl rfl
theorem dX6_end_117 : decode cX6_end 117 = .ok (.bipush 90, 2) := g_16 90 bX6_end rfl rfl
theorem dX6_end_129 : decode cX6_end 129 = .ok (.bipush 100, 2) := g_16 100 bX6_end rfl rfl
theorem dX6_end_133 : decode cX6_end 133 = .ok (.iinc 4 1, 3) := g_132 1 bX6_end rfl rfl
theorem dX6_end_136 : decode cX6_end 136 = .ok (.goto (-53), 3) := g_167 65483 bX6_end rfl rfl
theorem dX6_end_139 : decode cX6_end 139 = .ok (.iinc 2 1, 3) := g_132 1 bX6_end rfl rfl
theorem dX6_end_142 : decode cX6_end 142 = .ok (.goto (-138), 3) := g_167 65398 bX6_end rfl rfl
theorem dX6_goes_9 : decode cX6_goes 9 = .ok (.if_icmp .ge 43, 3) := g_162 43 bX6_goes rfl rfl
theorem dX6_goes_14 : decode cX6_goes 14 = .ok (.if_icmp .eq 10, 3) := g_159 10 bX6_goes rfl rfl
theorem dX6_goes_46 : decode cX6_goes 46 = .ok (.iinc 5 1, 3) := g_132 1 bX6_goes rfl rfl
theorem dX6_goes_49 : decode cX6_goes 49 = .ok (.goto (-43), 3) := g_167 65493 bX6_goes rfl rfl
theorem dX6_readMost_4 : decode cX6_readMost 4 = .ok (.if_icmp .ge 119, 3) := g_162 119 bX6_readMost rfl rfl
theorem dX6_readMost_11 : decode cX6_readMost 11 = .ok (.ifCond .le 112, 3) := g_158 112 bX6_readMost rfl rfl
theorem dX6_readMost_26 : decode cX6_readMost 26 = .ok (.if_icmp .ge 54, 3) := g_162 54 bX6_readMost rfl rfl
theorem dX6_readMost_35 : decode cX6_readMost 35 = .ok (.ifCond .ne 35, 3) := g_154 35 bX6_readMost rfl rfl
theorem dX6_readMost_41 : decode cX6_readMost 41 = .ok (.if_icmp .eq 24, 3) := g_159 24 bX6_readMost rfl rfl
theorem dX6_readMost_62 : decode cX6_readMost 62 = .ok (.if_icmp .le 8, 3) := g_164 8 bX6_readMost rfl rfl
theorem dX6_readMost_67 : decode cX6_readMost 67 = .ok (.goto 5, 3) := g_167 5 bX6_readMost rfl rfl
theorem dX6_readMost_74 : decode cX6_readMost 74 = .ok (.iinc 5 1, 3) := g_132 1 bX6_readMost rfl rfl
theorem dX6_readMost_77 : decode cX6_readMost 77 = .ok (.goto (-57), 3) := g_167 65479 bX6_readMost rfl rfl
theorem dX6_readMost_83 : decode cX6_readMost 83 = .ok (.if_icmp .ne 5, 3) := g_160 5 bX6_readMost rfl rfl
theorem dX6_readMost_98 : decode cX6_readMost 98 = .ok (.ifCond .eq 14, 3) := g_153 14 bX6_readMost rfl rfl
theorem dX6_readMost_109 : decode cX6_readMost 109 = .ok (.goto 4, 3) := g_167 4 bX6_readMost rfl rfl
theorem dX6_readMost_117 : decode cX6_readMost 117 = .ok (.iinc 3 1, 3) := g_132 1 bX6_readMost rfl rfl
theorem dX6_readMost_120 : decode cX6_readMost 120 = .ok (.goto (-118), 3) := g_167 65418 bX6_readMost rfl rfl
theorem dX6_readsTo_18 : decode cX6_readsTo 18 = .ok (.if_icmp .ge 113, 3) := g_162 113 bX6_readsTo rfl rfl
theorem dX6_readsTo_24 : decode cX6_readsTo 24 = .ok (.if_icmp .eq 101, 3) := g_159 101 bX6_readsTo rfl rfl
theorem dX6_readsTo_33 : decode cX6_readsTo 33 = .ok (.ifCond .eq 92, 3) := g_153 92 bX6_readsTo rfl rfl
theorem dX6_readsTo_42 : decode cX6_readsTo 42 = .ok (.ifCond .eq 83, 3) := g_153 83 bX6_readsTo rfl rfl
theorem dX6_readsTo_77 : decode cX6_readsTo 77 = .ok (.if_icmp .le 7, 3) := g_164 7 bX6_readsTo rfl rfl
theorem dX6_readsTo_81 : decode cX6_readsTo 81 = .ok (.goto 4, 3) := g_167 4 bX6_readsTo rfl rfl
theorem dX6_readsTo_107 : decode cX6_readsTo 107 = .ok (.if_icmp .le 8, 3) := g_164 8 bX6_readsTo rfl rfl
theorem dX6_readsTo_112 : decode cX6_readsTo 112 = .ok (.goto 12, 3) := g_167 12 bX6_readsTo rfl rfl
theorem dX6_readsTo_125 : decode cX6_readsTo 125 = .ok (.iinc 5 1, 3) := g_132 1 bX6_readsTo rfl rfl
theorem dX6_readsTo_128 : decode cX6_readsTo 128 = .ok (.goto (-116), 3) := g_167 65420 bX6_readsTo rfl rfl
theorem dX6_fresh_4 : decode cX6_fresh 4 = .ok (.ifnonnull 14, 3) := g_199 14 bX6_fresh rfl rfl
theorem dX6_init_1 : decode cX6_init 1 = .ok (.invokespecial 1, 3) := g_183 bX6_init rfl
theorem dX6_init_5 : decode cX6_init 5 = .ok (.bipush 8, 2) := g_16 8 bX6_init rfl rfl
theorem dX6_init_13 : decode cX6_init 13 = .ok (.bipush 8, 2) := g_16 8 bX6_init rfl rfl
theorem dX6_init_21 : decode cX6_init 21 = .ok (.bipush 8, 2) := g_16 8 bX6_init rfl rfl
theorem dX6_init_29 : decode cX6_init 29 = .ok (.bipush 8, 2) := g_16 8 bX6_init rfl rfl
theorem dX6_init_31 : decode cX6_init 31 = .ok (.bipush 40, 2) := g_16 40 bX6_init rfl rfl
theorem dX6_init_33 : decode cX6_init 33 = .ok (.multianewarray 19 2, 4) := by decide +kernel
theorem dX6_init_41 : decode cX6_init 41 = .ok (.bipush 40, 2) := g_16 40 bX6_init rfl rfl
theorem dX6_init_49 : decode cX6_init 49 = .ok (.bipush 8, 2) := g_16 8 bX6_init rfl rfl
theorem dX6_init_57 : decode cX6_init 57 = .ok (.bipush 8, 2) := g_16 8 bX6_init rfl rfl
theorem dX6_init_65 : decode cX6_init 65 = .ok (.sipush 250, 3) := g_17 250 bX6_init rfl rfl
theorem dX6_init_74 : decode cX6_init 74 = .ok (.bipush 8, 2) := g_16 8 bX6_init rfl rfl
theorem dX6_init_82 : decode cX6_init 82 = .ok (.bipush 8, 2) := g_16 8 bX6_init rfl rfl
theorem dX6_init_85 : decode cX6_init 85 = .ok (.multianewarray 40 2, 4) := by decide +kernel
theorem dX6_init_93 : decode cX6_init 93 = .ok (.bipush 8, 2) := g_16 8 bX6_init rfl rfl
theorem dX6_init_96 : decode cX6_init 96 = .ok (.multianewarray 40 2, 4) := by decide +kernel
theorem dX6_init_104 : decode cX6_init 104 = .ok (.bipush 8, 2) := g_16 8 bX6_init rfl rfl
theorem dX6_init_106 : decode cX6_init 106 = .ok (.bipush 8, 2) := g_16 8 bX6_init rfl rfl
theorem dX6_init_108 : decode cX6_init 108 = .ok (.multianewarray 40 2, 4) := by decide +kernel
theorem dX6_init_128 : decode cX6_init 128 = .ok (.bipush 8, 2) := g_16 8 bX6_init rfl rfl
theorem dX6_init_150 : decode cX6_init 150 = .ok (.bipush 6, 2) := g_16 6 bX6_init rfl rfl
theorem dX6_overAll_5 : decode cX6_overAll 5 = .ok (.if_icmp .ge 35, 3) := g_162 35 bX6_overAll rfl rfl
theorem dX6_overAll_15 : decode cX6_overAll 15 = .ok (.if_icmp .ge 19, 3) := g_162 19 bX6_overAll rfl rfl
theorem dX6_overAll_28 : decode cX6_overAll 28 = .ok (.iinc 3 1, 3) := g_132 1 bX6_overAll rfl rfl
theorem dX6_overAll_31 : decode cX6_overAll 31 = .ok (.goto (-21), 3) := g_167 65515 bX6_overAll rfl rfl
theorem dX6_overAll_34 : decode cX6_overAll 34 = .ok (.iinc 2 1, 3) := g_132 1 bX6_overAll rfl rfl
theorem dX6_overAll_37 : decode cX6_overAll 37 = .ok (.goto (-35), 3) := g_167 65501 bX6_overAll rfl rfl
theorem dX6_add_8 : decode cX6_add 8 = .ok (.ifCond .eq 38, 3) := g_153 38 bX6_add rfl rfl
theorem dX6_add_19 : decode cX6_add 19 = .ok (.ifCond .eq 27, 3) := g_153 27 bX6_add rfl rfl
theorem dX6_add_31 : decode cX6_add 31 = .ok (.ifCond .eq 15, 3) := g_153 15 bX6_add rfl rfl
theorem dX6_add_43 : decode cX6_add 43 = .ok (.ifCond .ne 6, 3) := g_154 6 bX6_add rfl rfl
theorem dX6_add_46 : decode cX6_add 46 = .ok (.bipush (-2), 2) := g_16 254 bX6_add rfl rfl
theorem dX6_add_53 : decode cX6_add 53 = .ok (.bipush 8, 2) := g_16 8 bX6_add rfl rfl
theorem dX6_add_55 : decode cX6_add 55 = .ok (.if_icmp .ne 6, 3) := g_160 6 bX6_add rfl rfl
theorem dX6_add_58 : decode cX6_add 58 = .ok (.bipush (-6), 2) := g_16 250 bX6_add rfl rfl
theorem dX6_fit_1 : decode cX6_fit 1 = .ok (.tableswitch 47 0 3 #[31, 36, 41, 45], 31) := by decide +kernel
theorem dX6_fit_51 : decode cX6_fit 51 = .ok (.ifCond .eq 7, 3) := g_153 7 bX6_fit rfl rfl
theorem dX6_fit_55 : decode cX6_fit 55 = .ok (.goto 4, 3) := g_167 4 bX6_fit rfl rfl
theorem dX6_isUnder_1 : decode cX6_isUnder 1 = .ok (.ifCond .eq 28, 3) := g_153 28 bX6_isUnder rfl rfl
theorem dX6_isUnder_6 : decode cX6_isUnder 6 = .ok (.if_icmp .eq 23, 3) := g_159 23 bX6_isUnder rfl rfl
theorem dX6_isUnder_11 : decode cX6_isUnder 11 = .ok (.if_icmp .ne 8, 3) := g_160 8 bX6_isUnder rfl rfl
theorem dX6_isUnder_16 : decode cX6_isUnder 16 = .ok (.if_icmp .le 13, 3) := g_164 13 bX6_isUnder rfl rfl
theorem dX6_isUnder_21 : decode cX6_isUnder 21 = .ok (.if_icmp .ne 12, 3) := g_160 12 bX6_isUnder rfl rfl
theorem dX6_isUnder_26 : decode cX6_isUnder 26 = .ok (.if_icmp .lt 7, 3) := g_161 7 bX6_isUnder rfl rfl
theorem dX6_isUnder_30 : decode cX6_isUnder 30 = .ok (.goto 4, 3) := g_167 4 bX6_isUnder rfl rfl
theorem dX6_newBook_34 : decode cX6_newBook 34 = .ok (.sipush 1000, 3) := g_17 1000 bX6_newBook rfl rfl
theorem dX6_newBook_53 : decode cX6_newBook 53 = .ok (.bipush 8, 2) := g_16 8 bX6_newBook rfl rfl
theorem dX6_newBook_55 : decode cX6_newBook 55 = .ok (.if_icmp .ge 21, 3) := g_162 21 bX6_newBook rfl rfl
theorem dX6_newBook_70 : decode cX6_newBook 70 = .ok (.iinc 2 1, 3) := g_132 1 bX6_newBook rfl rfl
theorem dX6_newBook_73 : decode cX6_newBook 73 = .ok (.goto (-21), 3) := g_167 65515 bX6_newBook rfl rfl
theorem dX6_newOne_51 : decode cX6_newOne 51 = .ok (.bipush 8, 2) := g_16 8 bX6_newOne rfl rfl
theorem dX6_newOne_53 : decode cX6_newOne 53 = .ok (.if_icmp .ge 21, 3) := g_162 21 bX6_newOne rfl rfl
theorem dX6_newOne_68 : decode cX6_newOne 68 = .ok (.iinc 1 1, 3) := g_132 1 bX6_newOne rfl rfl
theorem dX6_newOne_71 : decode cX6_newOne 71 = .ok (.goto (-21), 3) := g_167 65515 bX6_newOne rfl rfl
theorem dX6_noReading_6 : decode cX6_noReading 6 = .ok (.ifCond .eq 12, 3) := g_153 12 bX6_noReading rfl rfl
theorem dX6_noReading_15 : decode cX6_noReading 15 = .ok (.ifCond .ne 10, 3) := g_154 10 bX6_noReading rfl rfl
theorem dX6_noReading_19 : decode cX6_noReading 19 = .ok (.bipush (-2), 2) := g_16 254 bX6_noReading rfl rfl
theorem dX6_noReading_30 : decode cX6_noReading 30 = .ok (.ifCond .ne 11, 3) := g_154 11 bX6_noReading rfl rfl
theorem dX6_noReading_38 : decode cX6_noReading 38 = .ok (.ifCond .ne 12, 3) := g_154 12 bX6_noReading rfl rfl
theorem dX6_noReading_42 : decode cX6_noReading 42 = .ok (.bipush (-5), 2) := g_16 251 bX6_noReading rfl rfl
theorem dX6_noReading_47 : decode cX6_noReading 47 = .ok (.goto 4, 3) := g_167 4 bX6_noReading rfl rfl
theorem dX6_noRow_9 : decode cX6_noRow 9 = .ok (.ifCond .ne 10, 3) := g_154 10 bX6_noRow rfl rfl
theorem dX6_noRow_13 : decode cX6_noRow 13 = .ok (.bipush (-2), 2) := g_16 254 bX6_noRow rfl rfl
theorem dX6_noRow_26 : decode cX6_noRow 26 = .ok (.if_icmp .ne 10, 3) := g_160 10 bX6_noRow rfl rfl
theorem dX6_noRow_30 : decode cX6_noRow 30 = .ok (.bipush (-3), 2) := g_16 253 bX6_noRow rfl rfl
theorem dX6_noRow_42 : decode cX6_noRow 42 = .ok (.ifCond .ne 12, 3) := g_154 12 bX6_noRow rfl rfl
theorem dX6_noRow_46 : decode cX6_noRow 46 = .ok (.bipush (-4), 2) := g_16 252 bX6_noRow rfl rfl
theorem dX6_noRow_51 : decode cX6_noRow 51 = .ok (.goto 4, 3) := g_167 4 bX6_noRow rfl rfl
theorem dX6_noRule_9 : decode cX6_noRule 9 = .ok (.ifCond .ne 10, 3) := g_154 10 bX6_noRule rfl rfl
theorem dX6_noRule_13 : decode cX6_noRule 13 = .ok (.bipush (-2), 2) := g_16 254 bX6_noRule rfl rfl
theorem dX6_noRule_26 : decode cX6_noRule 26 = .ok (.if_icmp .ne 10, 3) := g_160 10 bX6_noRule rfl rfl
theorem dX6_noRule_30 : decode cX6_noRule 30 = .ok (.bipush (-3), 2) := g_16 253 bX6_noRule rfl rfl
theorem dX6_noRule_42 : decode cX6_noRule 42 = .ok (.ifCond .ne 12, 3) := g_154 12 bX6_noRule rfl rfl
theorem dX6_noRule_46 : decode cX6_noRule 46 = .ok (.bipush (-4), 2) := g_16 252 bX6_noRule rfl rfl
theorem dX6_noRule_51 : decode cX6_noRule 51 = .ok (.goto 4, 3) := g_167 4 bX6_noRule rfl rfl
theorem dX6_isDigit_1 : decode cX6_isDigit 1 = .ok (.bipush 48, 2) := g_16 48 bX6_isDigit rfl rfl
theorem dX6_isDigit_3 : decode cX6_isDigit 3 = .ok (.if_icmp .lt 13, 3) := g_161 13 bX6_isDigit rfl rfl
theorem dX6_isDigit_7 : decode cX6_isDigit 7 = .ok (.bipush 57, 2) := g_16 57 bX6_isDigit rfl rfl
theorem dX6_isDigit_9 : decode cX6_isDigit 9 = .ok (.if_icmp .gt 7, 3) := g_163 7 bX6_isDigit rfl rfl
theorem dX6_isDigit_13 : decode cX6_isDigit 13 = .ok (.goto 4, 3) := g_167 4 bX6_isDigit rfl rfl
theorem dX6_isLetter_1 : decode cX6_isLetter 1 = .ok (.bipush 97, 2) := g_16 97 bX6_isLetter rfl rfl
theorem dX6_isLetter_3 : decode cX6_isLetter 3 = .ok (.if_icmp .lt 13, 3) := g_161 13 bX6_isLetter rfl rfl
theorem dX6_isLetter_7 : decode cX6_isLetter 7 = .ok (.bipush 122, 2) := g_16 122 bX6_isLetter rfl rfl
theorem dX6_isLetter_9 : decode cX6_isLetter 9 = .ok (.if_icmp .gt 7, 3) := g_163 7 bX6_isLetter rfl rfl
theorem dX6_isLetter_13 : decode cX6_isLetter 13 = .ok (.goto 4, 3) := g_167 4 bX6_isLetter rfl rfl
theorem dX6_isWord_5 : decode cX6_isWord 5 = .ok (.if_icmp .ne 19, 3) := g_160 19 bX6_isWord rfl rfl
theorem dX6_isWord_21 : decode cX6_isWord 21 = .ok (.if_icmp .eq 5, 3) := g_159 5 bX6_isWord rfl rfl
theorem dX6_isWord_33 : decode cX6_isWord 33 = .ok (.if_icmp .ge 30, 3) := g_162 30 bX6_isWord rfl rfl
theorem dX6_isWord_52 : decode cX6_isWord 52 = .ok (.if_icmp .eq 5, 3) := g_159 5 bX6_isWord rfl rfl
theorem dX6_isWord_57 : decode cX6_isWord 57 = .ok (.iinc 2 1, 3) := g_132 1 bX6_isWord rfl rfl
theorem dX6_isWord_60 : decode cX6_isWord 60 = .ok (.goto (-32), 3) := g_167 65504 bX6_isWord rfl rfl
theorem dX6_look_8 : decode cX6_look 8 = .ok (.if_icmp .ge 30, 3) := g_162 30 bX6_look rfl rfl
theorem dX6_look_20 : decode cX6_look 20 = .ok (.bipush 32, 2) := g_16 32 bX6_look rfl rfl
theorem dX6_look_22 : decode cX6_look 22 = .ok (.if_icmp .ne 16, 3) := g_160 16 bX6_look rfl rfl
theorem dX6_look_35 : decode cX6_look 35 = .ok (.goto (-35), 3) := g_167 65501 bX6_look rfl rfl
theorem dX6_look_59 : decode cX6_look 59 = .ok (.if_icmp .ne 11, 3) := g_160 11 bX6_look rfl rfl
theorem dX6_look_67 : decode cX6_look 67 = .ok (.goto 200, 3) := g_167 200 bX6_look rfl rfl
theorem dX6_look_82 : decode cX6_look 82 = .ok (.ifCond .eq 47, 3) := g_153 47 bX6_look rfl rfl
theorem dX6_look_98 : decode cX6_look 98 = .ok (.if_icmp .ge 169, 3) := g_162 169 bX6_look rfl rfl
theorem dX6_look_113 : decode cX6_look 113 = .ok (.ifCond .eq 154, 3) := g_153 154 bX6_look rfl rfl
theorem dX6_look_126 : decode cX6_look 126 = .ok (.goto (-36), 3) := g_167 65500 bX6_look rfl rfl
theorem dX6_look_141 : decode cX6_look 141 = .ok (.ifCond .eq 93, 3) := g_153 93 bX6_look rfl rfl
theorem dX6_look_157 : decode cX6_look 157 = .ok (.if_icmp .ge 110, 3) := g_162 110 bX6_look rfl rfl
theorem dX6_look_172 : decode cX6_look 172 = .ok (.ifCond .eq 95, 3) := g_153 95 bX6_look rfl rfl
theorem dX6_look_186 : decode cX6_look 186 = .ok (.if_icmp .ge 29, 3) := g_162 29 bX6_look rfl rfl
theorem dX6_look_212 : decode cX6_look 212 = .ok (.goto 6, 3) := g_167 6 bX6_look rfl rfl
theorem dX6_look_231 : decode cX6_look 231 = .ok (.goto (-82), 3) := g_167 65454 bX6_look rfl rfl
theorem dX6_look_244 : decode cX6_look 244 = .ok (.bipush 59, 2) := g_16 59 bX6_look rfl rfl
theorem dX6_look_246 : decode cX6_look 246 = .ok (.if_icmp .ne 7, 3) := g_160 7 bX6_look rfl rfl
theorem dX6_look_250 : decode cX6_look 250 = .ok (.goto 4, 3) := g_167 4 bX6_look rfl rfl
theorem dX6_number_5 : decode cX6_number 5 = .ok (.if_icmp .ne 18, 3) := g_160 18 bX6_number rfl rfl
theorem dX6_number_20 : decode cX6_number 20 = .ok (.ifCond .ne 8, 3) := g_154 8 bX6_number rfl rfl
theorem dX6_perhaps_5 : decode cX6_perhaps 5 = .ok (.ifCond .eq 17, 3) := g_153 17 bX6_perhaps rfl rfl
theorem dX6_perhaps_19 : decode cX6_perhaps 19 = .ok (.ifCond .eq 7, 3) := g_153 7 bX6_perhaps rfl rfl
theorem dX6_perhaps_23 : decode cX6_perhaps 23 = .ok (.goto 4, 3) := g_167 4 bX6_perhaps rfl rfl
theorem dX6_tells_5 : decode cX6_tells 5 = .ok (.ifCond .ne 8, 3) := g_154 8 bX6_tells rfl rfl
theorem dX6_readAll_18 : decode cX6_readAll 18 = .ok (.ifCond .ne 5, 3) := g_154 5 bX6_readAll rfl rfl
theorem dX6_readAll_27 : decode cX6_readAll 27 = .ok (.ifCond .eq 42, 3) := g_153 42 bX6_readAll rfl rfl
theorem dX6_readAll_35 : decode cX6_readAll 35 = .ok (.if_icmp .eq 8, 3) := g_159 8 bX6_readAll rfl rfl
theorem dX6_readAll_51 : decode cX6_readAll 51 = .ok (.ifCond .ne 5, 3) := g_154 5 bX6_readAll rfl rfl
theorem dX6_readAll_66 : decode cX6_readAll 66 = .ok (.goto (-43), 3) := g_167 65493 bX6_readAll rfl rfl
theorem dX6_statement_6 : decode cX6_statement 6 = .ok (.ifCond .eq 76, 3) := g_153 76 bX6_statement rfl rfl
theorem dX6_statement_13 : decode cX6_statement 13 = .ok (.bipush 8, 2) := g_16 8 bX6_statement rfl rfl
theorem dX6_statement_15 : decode cX6_statement 15 = .ok (.if_icmp .ge 67, 3) := g_162 67 bX6_statement rfl rfl
theorem dX6_statement_37 : decode cX6_statement 37 = .ok (.bipush 99, 2) := g_16 99 bX6_statement rfl rfl
theorem dX6_statement_42 : decode cX6_statement 42 = .ok (.ifCond .eq 26, 3) := g_153 26 bX6_statement rfl rfl
theorem dX6_statement_59 : decode cX6_statement 59 = .ok (.sipush 1000, 3) := g_17 1000 bX6_statement rfl rfl
theorem dX6_statement_65 : decode cX6_statement 65 = .ok (.ifCond .ne 5, 3) := g_154 5 bX6_statement rfl rfl
theorem dX6_statement_88 : decode cX6_statement 88 = .ok (.ifCond .eq 98, 3) := g_153 98 bX6_statement rfl rfl
theorem dX6_statement_95 : decode cX6_statement 95 = .ok (.bipush 8, 2) := g_16 8 bX6_statement rfl rfl
theorem dX6_statement_97 : decode cX6_statement 97 = .ok (.if_icmp .ge 89, 3) := g_162 89 bX6_statement rfl rfl
theorem dX6_statement_120 : decode cX6_statement 120 = .ok (.bipush 9, 2) := g_16 9 bX6_statement rfl rfl
theorem dX6_statement_125 : decode cX6_statement 125 = .ok (.ifCond .eq 17, 3) := g_153 17 bX6_statement rfl rfl
theorem dX6_statement_134 : decode cX6_statement 134 = .ok (.bipush 10, 2) := g_16 10 bX6_statement rfl rfl
theorem dX6_statement_139 : decode cX6_statement 139 = .ok (.ifCond .ne 5, 3) := g_154 5 bX6_statement rfl rfl
theorem dX6_statement_150 : decode cX6_statement 150 = .ok (.bipush 10, 2) := g_16 10 bX6_statement rfl rfl
theorem dX6_statement_155 : decode cX6_statement 155 = .ok (.ifCond .eq 17, 3) := g_153 17 bX6_statement rfl rfl
theorem dX6_statement_164 : decode cX6_statement 164 = .ok (.bipush 10, 2) := g_16 10 bX6_statement rfl rfl
theorem dX6_statement_169 : decode cX6_statement 169 = .ok (.ifCond .ne 5, 3) := g_154 5 bX6_statement rfl rfl
theorem dX6_statement_192 : decode cX6_statement 192 = .ok (.ifCond .eq 73, 3) := g_153 73 bX6_statement rfl rfl
theorem dX6_statement_213 : decode cX6_statement 213 = .ok (.ifCond .eq 24, 3) := g_153 24 bX6_statement rfl rfl
theorem dX6_statement_234 : decode cX6_statement 234 = .ok (.ifCond .ne 5, 3) := g_154 5 bX6_statement rfl rfl
theorem dX6_statement_271 : decode cX6_statement 271 = .ok (.ifCond .eq 87, 3) := g_153 87 bX6_statement rfl rfl
theorem dX6_statement_292 : decode cX6_statement 292 = .ok (.ifCond .eq 38, 3) := g_153 38 bX6_statement rfl rfl
theorem dX6_statement_311 : decode cX6_statement 311 = .ok (.ifCond .eq 19, 3) := g_153 19 bX6_statement rfl rfl
theorem dX6_statement_321 : decode cX6_statement 321 = .ok (.sipush 1000, 3) := g_17 1000 bX6_statement rfl rfl
theorem dX6_statement_327 : decode cX6_statement 327 = .ok (.ifCond .ne 5, 3) := g_154 5 bX6_statement rfl rfl
theorem dX6_statement_376 : decode cX6_statement 376 = .ok (.ifCond .ne 5, 3) := g_154 5 bX6_statement rfl rfl
theorem dX6_copy_9 : decode cX6_copy 9 = .ok (.ifCond .eq 15, 3) := g_153 15 bX6_copy rfl rfl
theorem dX6_copy_21 : decode cX6_copy 21 = .ok (.ifCond .ne 10, 3) := g_154 10 bX6_copy rfl rfl
theorem dX6_copy_25 : decode cX6_copy 25 = .ok (.bipush (-2), 2) := g_16 254 bX6_copy rfl rfl
theorem dX6_copy_38 : decode cX6_copy 38 = .ok (.if_icmp .eq 48, 3) := g_159 48 bX6_copy rfl rfl
theorem dX6_copy_48 : decode cX6_copy 48 = .ok (.if_icmp .eq 38, 3) := g_159 38 bX6_copy rfl rfl
theorem dX6_copy_58 : decode cX6_copy 58 = .ok (.if_icmp .ne 35, 3) := g_160 35 bX6_copy rfl rfl
theorem dX6_copy_68 : decode cX6_copy 68 = .ok (.if_icmp .ne 25, 3) := g_160 25 bX6_copy rfl rfl
theorem dX6_copy_83 : decode cX6_copy 83 = .ok (.if_icmp .eq 10, 3) := g_159 10 bX6_copy rfl rfl
theorem dX6_copy_87 : decode cX6_copy 87 = .ok (.bipush (-3), 2) := g_16 253 bX6_copy rfl rfl
theorem dX6_copy_99 : decode cX6_copy 99 = .ok (.ifCond .eq 12, 3) := g_153 12 bX6_copy rfl rfl
theorem dX6_copy_108 : decode cX6_copy 108 = .ok (.ifCond .ne 10, 3) := g_154 10 bX6_copy rfl rfl
theorem dX6_copy_112 : decode cX6_copy 112 = .ok (.bipush (-4), 2) := g_16 252 bX6_copy rfl rfl
theorem dX6_copy_120 : decode cX6_copy 120 = .ok (.ifCond .lt 61, 3) := g_155 61 bX6_copy rfl rfl
theorem dX6_copy_124 : decode cX6_copy 124 = .ok (.ifCond .lt 57, 3) := g_155 57 bX6_copy rfl rfl
theorem dX6_copy_129 : decode cX6_copy 129 = .ok (.ifCond .lt 52, 3) := g_155 52 bX6_copy rfl rfl
theorem dX6_copy_140 : decode cX6_copy 140 = .ok (.if_icmp .gt 41, 3) := g_163 41 bX6_copy rfl rfl
theorem dX6_copy_151 : decode cX6_copy 151 = .ok (.if_icmp .gt 30, 3) := g_163 30 bX6_copy rfl rfl
theorem dX6_copy_164 : decode cX6_copy 164 = .ok (.if_icmp .gt 17, 3) := g_163 17 bX6_copy rfl rfl
theorem dX6_copy_178 : decode cX6_copy 178 = .ok (.if_icmp .le 10, 3) := g_164 10 bX6_copy rfl rfl
theorem dX6_copy_182 : decode cX6_copy 182 = .ok (.bipush (-2), 2) := g_16 254 bX6_copy rfl rfl
theorem dX6_copy_195 : decode cX6_copy 195 = .ok (.if_icmp .ge 27, 3) := g_162 27 bX6_copy rfl rfl
theorem dX6_copy_216 : decode cX6_copy 216 = .ok (.iinc 6 1, 3) := g_132 1 bX6_copy rfl rfl
theorem dX6_copy_219 : decode cX6_copy 219 = .ok (.goto (-28), 3) := g_167 65508 bX6_copy rfl rfl
theorem dX6_copy_229 : decode cX6_copy 229 = .ok (.if_icmp .ge 28, 3) := g_162 28 bX6_copy rfl rfl
theorem dX6_copy_251 : decode cX6_copy 251 = .ok (.iinc 6 1, 3) := g_132 1 bX6_copy rfl rfl
theorem dX6_copy_254 : decode cX6_copy 254 = .ok (.goto (-29), 3) := g_167 65507 bX6_copy rfl rfl
theorem dX6_element_9 : decode cX6_element 9 = .ok (.ifCond .eq 42, 3) := g_153 42 bX6_element rfl rfl
theorem dX6_element_19 : decode cX6_element 19 = .ok (.if_icmp .ne 32, 3) := g_160 32 bX6_element rfl rfl
theorem dX6_element_37 : decode cX6_element 37 = .ok (.ifCond .eq 14, 3) := g_153 14 bX6_element rfl rfl
theorem dX6_element_48 : decode cX6_element 48 = .ok (.goto 4, 3) := g_167 4 bX6_element rfl rfl
theorem dX6_holds_9 : decode cX6_holds 9 = .ok (.ifCond .eq 12, 3) := g_153 12 bX6_holds rfl rfl
theorem dX6_holds_18 : decode cX6_holds 18 = .ok (.ifCond .ne 5, 3) := g_154 5 bX6_holds rfl rfl
theorem dX6_holds_30 : decode cX6_holds 30 = .ok (.if_icmp .ne 12, 3) := g_160 12 bX6_holds rfl rfl
theorem dX6_holds_39 : decode cX6_holds 39 = .ok (.goto 12, 3) := g_167 12 bX6_holds rfl rfl
theorem dX6_holds_42 : decode cX6_holds 42 = .ok (.bipush 10, 2) := g_16 10 bX6_holds rfl rfl
theorem dX6_row_9 : decode cX6_row 9 = .ok (.ifCond .eq 27, 3) := g_153 27 bX6_row rfl rfl
theorem dX6_row_21 : decode cX6_row 21 = .ok (.ifCond .eq 15, 3) := g_153 15 bX6_row rfl rfl
theorem dX6_row_33 : decode cX6_row 33 = .ok (.ifCond .ne 10, 3) := g_154 10 bX6_row rfl rfl
theorem dX6_row_37 : decode cX6_row 37 = .ok (.bipush (-2), 2) := g_16 254 bX6_row rfl rfl
theorem dX6_row_69 : decode cX6_row 69 = .ok (.bipush 40, 2) := g_16 40 bX6_row rfl rfl
theorem dX6_row_71 : decode cX6_row 71 = .ok (.if_icmp .ge 19, 3) := g_162 19 bX6_row rfl rfl
theorem dX6_row_84 : decode cX6_row 84 = .ok (.iinc 4 1, 3) := g_132 1 bX6_row rfl rfl
theorem dX6_row_87 : decode cX6_row 87 = .ok (.goto (-20), 3) := g_167 65516 bX6_row rfl rfl
theorem dX6_rule_9 : decode cX6_rule 9 = .ok (.ifCond .eq 27, 3) := g_153 27 bX6_rule rfl rfl
theorem dX6_rule_21 : decode cX6_rule 21 = .ok (.ifCond .eq 15, 3) := g_153 15 bX6_rule rfl rfl
theorem dX6_rule_33 : decode cX6_rule 33 = .ok (.ifCond .ne 10, 3) := g_154 10 bX6_rule rfl rfl
theorem dX6_rule_37 : decode cX6_rule 37 = .ok (.bipush (-2), 2) := g_16 254 bX6_rule rfl rfl
theorem dX6_set_9 : decode cX6_set 9 = .ok (.ifCond .eq 6, 3) := g_153 6 bX6_set rfl rfl
theorem dX6_set_30 : decode cX6_set 30 = .ok (.ifCond .ne 10, 3) := g_154 10 bX6_set rfl rfl
theorem dX6_set_34 : decode cX6_set 34 = .ok (.bipush (-2), 2) := g_16 254 bX6_set rfl rfl
theorem dX6_aloud_6 : decode cX6_aloud 6 = .ok (.ifCond .eq 30, 3) := g_153 30 bX6_aloud rfl rfl
theorem dX6_aloud_15 : decode cX6_aloud 15 = .ok (.ifCond .eq 21, 3) := g_153 21 bX6_aloud rfl rfl
theorem dX6_aloud_33 : decode cX6_aloud 33 = .ok (.ifCond .ne 10, 3) := g_154 10 bX6_aloud rfl rfl
theorem dX6_aloud_37 : decode cX6_aloud 37 = .ok (.bipush (-2), 2) := g_16 254 bX6_aloud rfl rfl
theorem dX6_aloud_53 : decode cX6_aloud 53 = .ok (.ifCond .eq 8, 3) := g_153 8 bX6_aloud rfl rfl
theorem dX6_aloud_58 : decode cX6_aloud 58 = .ok (.goto 10, 3) := g_167 10 bX6_aloud rfl rfl
theorem dX6_alter_6 : decode cX6_alter 6 = .ok (.ifCond .eq 24, 3) := g_153 24 bX6_alter rfl rfl
theorem dX6_alter_15 : decode cX6_alter 15 = .ok (.ifCond .eq 15, 3) := g_153 15 bX6_alter rfl rfl
theorem dX6_alter_27 : decode cX6_alter 27 = .ok (.ifCond .ne 10, 3) := g_154 10 bX6_alter rfl rfl
theorem dX6_alter_31 : decode cX6_alter 31 = .ok (.bipush (-2), 2) := g_16 254 bX6_alter rfl rfl
theorem dX6_alter_42 : decode cX6_alter 42 = .ok (.ifCond .ne 10, 3) := g_154 10 bX6_alter rfl rfl
theorem dX6_alter_46 : decode cX6_alter 46 = .ok (.bipush (-5), 2) := g_16 251 bX6_alter rfl rfl
theorem dX6_book_9 : decode cX6_book 9 = .ok (.ifCond .eq 21, 3) := g_153 21 bX6_book rfl rfl
theorem dX6_book_27 : decode cX6_book 27 = .ok (.ifCond .ne 10, 3) := g_154 10 bX6_book rfl rfl
theorem dX6_book_31 : decode cX6_book 31 = .ok (.bipush (-2), 2) := g_16 254 bX6_book rfl rfl
theorem dX6_book_41 : decode cX6_book 41 = .ok (.bipush 8, 2) := g_16 8 bX6_book rfl rfl
theorem dX6_book_43 : decode cX6_book 43 = .ok (.if_icmp .ne 10, 3) := g_160 10 bX6_book rfl rfl
theorem dX6_book_47 : decode cX6_book 47 = .ok (.bipush (-6), 2) := g_16 250 bX6_book rfl rfl
theorem dX6_bookOf_6 : decode cX6_bookOf 6 = .ok (.ifCond .eq 15, 3) := g_153 15 bX6_bookOf rfl rfl
theorem dX6_bookOf_18 : decode cX6_bookOf 18 = .ok (.ifCond .ne 10, 3) := g_154 10 bX6_bookOf rfl rfl
theorem dX6_bookOf_22 : decode cX6_bookOf 22 = .ok (.bipush (-2), 2) := g_16 254 bX6_bookOf rfl rfl
theorem dX6_bookOf_30 : decode cX6_bookOf 30 = .ok (.if_icmp .ne 19, 3) := g_160 19 bX6_bookOf rfl rfl
theorem dX6_bookOf_46 : decode cX6_bookOf 46 = .ok (.goto 11, 3) := g_167 11 bX6_bookOf rfl rfl
theorem dX6_feed_9 : decode cX6_feed 9 = .ok (.ifCond .ne 10, 3) := g_154 10 bX6_feed rfl rfl
theorem dX6_feed_13 : decode cX6_feed 13 = .ok (.bipush (-2), 2) := g_16 254 bX6_feed rfl rfl
theorem dX6_feed_20 : decode cX6_feed 20 = .ok (.sipush 250, 3) := g_17 250 bX6_feed rfl rfl
theorem dX6_feed_28 : decode cX6_feed 28 = .ok (.if_icmp .le 10, 3) := g_164 10 bX6_feed rfl rfl
theorem dX6_feed_32 : decode cX6_feed 32 = .ok (.bipush (-6), 2) := g_16 250 bX6_feed rfl rfl
theorem dX6_feed_43 : decode cX6_feed 43 = .ok (.ifCond .lt 35, 3) := g_155 35 bX6_feed rfl rfl
theorem dX6_feed_62 : decode cX6_feed 62 = .ok (.bipush 8, 2) := g_16 8 bX6_feed rfl rfl
theorem dX6_feed_67 : decode cX6_feed 67 = .ok (.sipush 255, 3) := g_17 255 bX6_feed rfl rfl
theorem dX6_feed_72 : decode cX6_feed 72 = .ok (.iinc 3 (-1), 3) := g_132 255 bX6_feed rfl rfl
theorem dX6_feed_75 : decode cX6_feed 75 = .ok (.goto (-33), 3) := g_167 65503 bX6_feed rfl rfl
theorem dX6_ground_6 : decode cX6_ground 6 = .ok (.ifCond .eq 21, 3) := g_153 21 bX6_ground rfl rfl
theorem dX6_ground_15 : decode cX6_ground 15 = .ok (.ifCond .eq 12, 3) := g_153 12 bX6_ground rfl rfl
theorem dX6_ground_24 : decode cX6_ground 24 = .ok (.goto 9, 3) := g_167 9 bX6_ground rfl rfl
theorem dX6_ground_28 : decode cX6_ground 28 = .ok (.bipush (-2), 2) := g_16 254 bX6_ground rfl rfl
theorem dX6_known_6 : decode cX6_known 6 = .ok (.ifCond .eq 23, 3) := g_153 23 bX6_known rfl rfl
theorem dX6_known_15 : decode cX6_known 15 = .ok (.ifCond .eq 14, 3) := g_153 14 bX6_known rfl rfl
theorem dX6_known_26 : decode cX6_known 26 = .ok (.goto 9, 3) := g_167 9 bX6_known rfl rfl
theorem dX6_known_30 : decode cX6_known 30 = .ok (.bipush (-2), 2) := g_16 254 bX6_known rfl rfl
theorem dX6_needs_6 : decode cX6_needs 6 = .ok (.ifCond .ne 10, 3) := g_154 10 bX6_needs rfl rfl
theorem dX6_needs_10 : decode cX6_needs 10 = .ok (.bipush (-2), 2) := g_16 254 bX6_needs rfl rfl
theorem dX6_needs_19 : decode cX6_needs 19 = .ok (.ifCond .eq 54, 3) := g_153 54 bX6_needs rfl rfl
theorem dX6_needs_33 : decode cX6_needs 33 = .ok (.if_icmp .ge 38, 3) := g_162 38 bX6_needs rfl rfl
theorem dX6_needs_52 : decode cX6_needs 52 = .ok (.ifCond .eq 10, 3) := g_153 10 bX6_needs rfl rfl
theorem dX6_needs_59 : decode cX6_needs 59 = .ok (.goto 4, 3) := g_167 4 bX6_needs rfl rfl
theorem dX6_needs_65 : decode cX6_needs 65 = .ok (.iinc 4 1, 3) := g_132 1 bX6_needs rfl rfl
theorem dX6_needs_68 : decode cX6_needs 68 = .ok (.goto (-41), 3) := g_167 65495 bX6_needs rfl rfl
theorem dX6_needs_89 : decode cX6_needs 89 = .ok (.ifCond .lt 34, 3) := g_155 34 bX6_needs rfl rfl
theorem dX6_needs_99 : decode cX6_needs 99 = .ok (.ifCond .eq 15, 3) := g_153 15 bX6_needs rfl rfl
theorem dX6_needs_111 : decode cX6_needs 111 = .ok (.goto 4, 3) := g_167 4 bX6_needs rfl rfl
theorem dX6_needs_117 : decode cX6_needs 117 = .ok (.iinc 4 (-1), 3) := g_132 255 bX6_needs rfl rfl
theorem dX6_needs_120 : decode cX6_needs 120 = .ok (.goto (-33), 3) := g_167 65503 bX6_needs rfl rfl
theorem dX6_one_17 : decode cX6_one 17 = .ok (.ifCond .ge 12, 3) := g_156 12 bX6_one rfl rfl
theorem dX6_one_26 : decode cX6_one 26 = .ok (.goto 5, 3) := g_167 5 bX6_one rfl rfl
theorem dX6_oneOf_6 : decode cX6_oneOf 6 = .ok (.ifCond .eq 26, 3) := g_153 26 bX6_oneOf rfl rfl
theorem dX6_oneOf_18 : decode cX6_oneOf 18 = .ok (.ifCond .eq 14, 3) := g_153 14 bX6_oneOf rfl rfl
theorem dX6_oneOf_29 : decode cX6_oneOf 29 = .ok (.goto 9, 3) := g_167 9 bX6_oneOf rfl rfl
theorem dX6_oneOf_33 : decode cX6_oneOf 33 = .ok (.bipush (-2), 2) := g_16 254 bX6_oneOf rfl rfl
theorem dX6_ones_7 : decode cX6_ones 7 = .ok (.ifCond .eq 5, 3) := g_153 5 bX6_ones rfl rfl
theorem dX6_ones_13 : decode cX6_ones 13 = .ok (.ifCond .lt 19, 3) := g_155 19 bX6_ones rfl rfl
theorem dX6_ones_19 : decode cX6_ones 19 = .ok (.ifCond .ne 13, 3) := g_154 13 bX6_ones rfl rfl
theorem dX6_ones_29 : decode cX6_ones 29 = .ok (.if_icmp .le 10, 3) := g_164 10 bX6_ones rfl rfl
theorem dX6_ones_33 : decode cX6_ones 33 = .ok (.bipush (-2), 2) := g_16 254 bX6_ones rfl rfl
theorem dX6_ones_48 : decode cX6_ones 48 = .ok (.if_icmp .ge 64, 3) := g_162 64 bX6_ones rfl rfl
theorem dX6_ones_97 : decode cX6_ones 97 = .ok (.ifCond .ge 6, 3) := g_156 6 bX6_ones rfl rfl
theorem dX6_ones_103 : decode cX6_ones 103 = .ok (.iinc 4 1, 3) := g_132 1 bX6_ones rfl rfl
theorem dX6_ones_106 : decode cX6_ones 106 = .ok (.iinc 5 4, 3) := g_132 4 bX6_ones rfl rfl
theorem dX6_ones_109 : decode cX6_ones 109 = .ok (.goto (-64), 3) := g_167 65472 bX6_ones rfl rfl
theorem dX6_read_8 : decode cX6_read 8 = .ok (.ifCond .eq 5, 3) := g_153 5 bX6_read rfl rfl
theorem dX6_reader_6 : decode cX6_reader 6 = .ok (.ifCond .ne 10, 3) := g_154 10 bX6_reader rfl rfl
theorem dX6_reader_10 : decode cX6_reader 10 = .ok (.bipush (-2), 2) := g_16 254 bX6_reader rfl rfl
theorem dX6_reader_21 : decode cX6_reader 21 = .ok (.ifCond .eq 12, 3) := g_153 12 bX6_reader rfl rfl
theorem dX6_reader_25 : decode cX6_reader 25 = .ok (.bipush (-5), 2) := g_16 251 bX6_reader rfl rfl
theorem dX6_reader_30 : decode cX6_reader 30 = .ok (.goto 8, 3) := g_167 8 bX6_reader rfl rfl
theorem dX6_teach_6 : decode cX6_teach 6 = .ok (.ifCond .eq 12, 3) := g_153 12 bX6_teach rfl rfl
theorem dX6_teach_15 : decode cX6_teach 15 = .ok (.ifCond .ne 10, 3) := g_154 10 bX6_teach rfl rfl
theorem dX6_teach_19 : decode cX6_teach 19 = .ok (.bipush (-2), 2) := g_16 254 bX6_teach rfl rfl
theorem dX6_teach_30 : decode cX6_teach 30 = .ok (.ifCond .ne 10, 3) := g_154 10 bX6_teach rfl rfl
theorem dX6_teach_34 : decode cX6_teach 34 = .ok (.bipush (-5), 2) := g_16 251 bX6_teach rfl rfl
theorem dX6_teach_54 : decode cX6_teach 54 = .ok (.if_icmp .ge 52, 3) := g_162 52 bX6_teach rfl rfl
theorem dX6_teach_60 : decode cX6_teach 60 = .ok (.if_icmp .eq 23, 3) := g_159 23 bX6_teach rfl rfl
theorem dX6_teach_69 : decode cX6_teach 69 = .ok (.ifCond .eq 14, 3) := g_153 14 bX6_teach rfl rfl
theorem dX6_teach_80 : decode cX6_teach 80 = .ok (.goto 4, 3) := g_167 4 bX6_teach rfl rfl
theorem dX6_teach_90 : decode cX6_teach 90 = .ok (.if_icmp .le 10, 3) := g_164 10 bX6_teach rfl rfl
theorem dX6_teach_100 : decode cX6_teach 100 = .ok (.iinc 5 1, 3) := g_132 1 bX6_teach rfl rfl
theorem dX6_teach_103 : decode cX6_teach 103 = .ok (.goto (-55), 3) := g_167 65481 bX6_teach rfl rfl
theorem dX6_tell_6 : decode cX6_tell 6 = .ok (.ifCond .eq 26, 3) := g_153 26 bX6_tell rfl rfl
theorem dX6_tell_15 : decode cX6_tell 15 = .ok (.ifCond .eq 17, 3) := g_153 17 bX6_tell rfl rfl
theorem dX6_tell_20 : decode cX6_tell 20 = .ok (.if_icmp .eq 12, 3) := g_159 12 bX6_tell rfl rfl
theorem dX6_tell_29 : decode cX6_tell 29 = .ok (.ifCond .ne 10, 3) := g_154 10 bX6_tell rfl rfl
theorem dX6_tell_33 : decode cX6_tell 33 = .ok (.bipush (-2), 2) := g_16 254 bX6_tell rfl rfl
theorem dX6_tell_44 : decode cX6_tell 44 = .ok (.ifCond .eq 11, 3) := g_153 11 bX6_tell rfl rfl
theorem dX6_tell_52 : decode cX6_tell 52 = .ok (.ifCond .ne 10, 3) := g_154 10 bX6_tell rfl rfl
theorem dX6_tell_56 : decode cX6_tell 56 = .ok (.bipush (-5), 2) := g_16 251 bX6_tell rfl rfl
theorem dX6_town_16 : decode cX6_town 16 = .ok (.ifCond .ne 23, 3) := g_154 23 bX6_town rfl rfl
theorem dX6_town_25 : decode cX6_town 25 = .ok (.bipush (-2), 2) := g_16 254 bX6_town rfl rfl
theorem dX6_town_31 : decode cX6_town 31 = .ok (.bipush (-20), 2) := g_16 236 bX6_town rfl rfl
theorem dX6_two_6 : decode cX6_two 6 = .ok (.ifCond .eq 26, 3) := g_153 26 bX6_two rfl rfl
theorem dX6_two_15 : decode cX6_two 15 = .ok (.ifCond .eq 17, 3) := g_153 17 bX6_two rfl rfl
theorem dX6_two_29 : decode cX6_two 29 = .ok (.goto 9, 3) := g_167 9 bX6_two rfl rfl
theorem dX6_two_33 : decode cX6_two 33 = .ok (.bipush (-2), 2) := g_16 254 bX6_two rfl rfl
theorem dX6_would_8 : decode cX6_would 8 = .ok (.ifCond .eq 7, 3) := g_153 7 bX6_would rfl rfl
theorem dX6_would_12 : decode cX6_would 12 = .ok (.goto 9, 3) := g_167 9 bX6_would rfl rfl
theorem dX6_write_6 : decode cX6_write 6 = .ok (.ifCond .eq 12, 3) := g_153 12 bX6_write rfl rfl
theorem dX6_write_15 : decode cX6_write 15 = .ok (.ifCond .ne 10, 3) := g_154 10 bX6_write rfl rfl
theorem dX6_write_19 : decode cX6_write 19 = .ok (.bipush (-2), 2) := g_16 254 bX6_write rfl rfl
theorem dX6_write_30 : decode cX6_write 30 = .ok (.ifCond .eq 22, 3) := g_153 22 bX6_write rfl rfl
theorem dX6_write_38 : decode cX6_write 38 = .ok (.ifCond .eq 14, 3) := g_153 14 bX6_write rfl rfl
theorem dX6_write_49 : decode cX6_write 49 = .ok (.ifCond .ne 10, 3) := g_154 10 bX6_write rfl rfl
theorem dX6_write_53 : decode cX6_write 53 = .ok (.bipush (-5), 2) := g_16 251 bX6_write rfl rfl
theorem dX6_youngest_6 : decode cX6_youngest 6 = .ok (.ifCond .eq 11, 3) := g_153 11 bX6_youngest rfl rfl
theorem dX6_youngest_14 : decode cX6_youngest 14 = .ok (.goto 9, 3) := g_167 9 bX6_youngest rfl rfl
theorem dX6_youngest_18 : decode cX6_youngest 18 = .ok (.bipush (-2), 2) := g_16 254 bX6_youngest rfl rfl
theorem dX6_draw_9 : decode cX6_draw 9 = .ok (.sipush 12345, 3) := g_17 12345 bX6_draw rfl rfl
theorem dX6_draw_20 : decode cX6_draw 20 = .ok (.bipush 16, 2) := g_16 16 bX6_draw rfl rfl
theorem dX6_findWho_16 : decode cX6_findWho 16 = .ok (.if_icmp .ge 63, 3) := g_162 63 bX6_findWho rfl rfl
theorem dX6_findWho_25 : decode cX6_findWho 25 = .ok (.ifCond .eq 48, 3) := g_153 48 bX6_findWho rfl rfl
theorem dX6_findWho_52 : decode cX6_findWho 52 = .ok (.if_icmp .eq 12, 3) := g_159 12 bX6_findWho rfl rfl
theorem dX6_findWho_61 : decode cX6_findWho 61 = .ok (.if_icmp .le 12, 3) := g_164 12 bX6_findWho rfl rfl
theorem dX6_findWho_73 : decode cX6_findWho 73 = .ok (.iinc 4 1, 3) := g_132 1 bX6_findWho rfl rfl
theorem dX6_findWho_76 : decode cX6_findWho 76 = .ok (.goto (-66), 3) := g_167 65470 bX6_findWho rfl rfl
theorem dX6_leftOf_8 : decode cX6_leftOf 8 = .ok (.if_icmp .ge 16, 3) := g_162 16 bX6_leftOf rfl rfl
theorem dX6_leftOf_14 : decode cX6_leftOf 14 = .ok (.bipush 10, 2) := g_16 10 bX6_leftOf rfl rfl
theorem dX6_leftOf_18 : decode cX6_leftOf 18 = .ok (.iinc 4 1, 3) := g_132 1 bX6_leftOf rfl rfl
theorem dX6_leftOf_21 : decode cX6_leftOf 21 = .ok (.goto (-16), 3) := g_167 65520 bX6_leftOf rfl rfl
theorem dX6_lostBy_11 : decode cX6_lostBy 11 = .ok (.if_icmp .ge 31, 3) := g_162 31 bX6_lostBy rfl rfl
theorem dX6_lostBy_23 : decode cX6_lostBy 23 = .ok (.if_icmp .ge 10, 3) := g_162 10 bX6_lostBy rfl rfl
theorem dX6_lostBy_30 : decode cX6_lostBy 30 = .ok (.goto 4, 3) := g_167 4 bX6_lostBy rfl rfl
theorem dX6_lostBy_36 : decode cX6_lostBy 36 = .ok (.iinc 4 1, 3) := g_132 1 bX6_lostBy rfl rfl
theorem dX6_lostBy_39 : decode cX6_lostBy 39 = .ok (.goto (-34), 3) := g_167 65502 bX6_lostBy rfl rfl
theorem dX6_noTold_9 : decode cX6_noTold 9 = .ok (.ifCond .eq 15, 3) := g_153 15 bX6_noTold rfl rfl
theorem dX6_noTold_21 : decode cX6_noTold 21 = .ok (.ifCond .ne 10, 3) := g_154 10 bX6_noTold rfl rfl
theorem dX6_noTold_25 : decode cX6_noTold 25 = .ok (.bipush (-2), 2) := g_16 254 bX6_noTold rfl rfl
theorem dX6_noTold_38 : decode cX6_noTold 38 = .ok (.ifCond .eq 5, 3) := g_153 5 bX6_noTold rfl rfl
theorem dX6_noTold_50 : decode cX6_noTold 50 = .ok (.if_icmp .ge 12, 3) := g_162 12 bX6_noTold rfl rfl
theorem dX6_noTold_54 : decode cX6_noTold 54 = .ok (.bipush (-2), 2) := g_16 254 bX6_noTold rfl rfl
theorem dX6_noTold_59 : decode cX6_noTold 59 = .ok (.goto 4, 3) := g_167 4 bX6_noTold rfl rfl
theorem dX6_wrongAt_11 : decode cX6_wrongAt 11 = .ok (.if_icmp .ge 103, 3) := g_162 103 bX6_wrongAt rfl rfl
theorem dX6_wrongAt_29 : decode cX6_wrongAt 29 = .ok (.ifCond .lt 29, 3) := g_155 29 bX6_wrongAt rfl rfl
theorem dX6_wrongAt_42 : decode cX6_wrongAt 42 = .ok (.ifCond .eq 16, 3) := g_153 16 bX6_wrongAt rfl rfl
theorem dX6_wrongAt_55 : decode cX6_wrongAt 55 = .ok (.ifCond .ne 6, 3) := g_154 6 bX6_wrongAt rfl rfl
theorem dX6_wrongAt_85 : decode cX6_wrongAt 85 = .ok (.ifCond .eq 12, 3) := g_153 12 bX6_wrongAt rfl rfl
theorem dX6_wrongAt_94 : decode cX6_wrongAt 94 = .ok (.ifCond .eq 6, 3) := g_153 6 bX6_wrongAt rfl rfl
theorem dX6_wrongAt_108 : decode cX6_wrongAt 108 = .ok (.iinc 4 1, 3) := g_132 1 bX6_wrongAt rfl rfl
theorem dX6_wrongAt_111 : decode cX6_wrongAt 111 = .ok (.goto (-103), 3) := g_167 65433 bX6_wrongAt rfl rfl
theorem dX6_next_14 : decode cX6_next 14 = .ok (.if_icmp .ge 64, 3) := g_162 64 bX6_next rfl rfl
theorem dX6_next_22 : decode cX6_next 22 = .ok (.ifCond .eq 7, 3) := g_153 7 bX6_next rfl rfl
theorem dX6_next_26 : decode cX6_next 26 = .ok (.goto 8, 3) := g_167 8 bX6_next rfl rfl
theorem dX6_next_39 : decode cX6_next 39 = .ok (.if_icmp .eq 33, 3) := g_159 33 bX6_next rfl rfl
theorem dX6_next_64 : decode cX6_next 64 = .ok (.if_icmp .le 8, 3) := g_164 8 bX6_next rfl rfl
theorem dX6_next_72 : decode cX6_next 72 = .ok (.iinc 3 1, 3) := g_132 1 bX6_next rfl rfl
theorem dX6_next_75 : decode cX6_next 75 = .ok (.goto (-66), 3) := g_167 65470 bX6_next rfl rfl
theorem dX6_says_9 : decode cX6_says 9 = .ok (.ifCond .eq 15, 3) := g_153 15 bX6_says rfl rfl
theorem dX6_says_21 : decode cX6_says 21 = .ok (.ifCond .ne 10, 3) := g_154 10 bX6_says rfl rfl
theorem dX6_says_25 : decode cX6_says 25 = .ok (.bipush (-2), 2) := g_16 254 bX6_says rfl rfl
theorem dX6_says_38 : decode cX6_says 38 = .ok (.if_icmp .eq 26, 3) := g_159 26 bX6_says rfl rfl
theorem dX6_says_48 : decode cX6_says 48 = .ok (.if_icmp .ne 23, 3) := g_160 23 bX6_says rfl rfl
theorem dX6_says_61 : decode cX6_says 61 = .ok (.ifCond .ne 10, 3) := g_154 10 bX6_says rfl rfl
theorem dX6_says_65 : decode cX6_says 65 = .ok (.bipush (-3), 2) := g_16 253 bX6_says rfl rfl
theorem dX6_says_77 : decode cX6_says 77 = .ok (.ifCond .ne 10, 3) := g_154 10 bX6_says rfl rfl
theorem dX6_says_81 : decode cX6_says 81 = .ok (.bipush (-4), 2) := g_16 252 bX6_says rfl rfl
theorem dX6_says_88 : decode cX6_says 88 = .ok (.ifCond .ne 10, 3) := g_154 10 bX6_says rfl rfl
theorem dX6_says_120 : decode cX6_says 120 = .ok (.if_icmp .gt 7, 3) := g_163 7 bX6_says rfl rfl
theorem dX6_says_124 : decode cX6_says 124 = .ok (.goto 10, 3) := g_167 10 bX6_says rfl rfl
theorem dX6_gains_9 : decode cX6_gains 9 = .ok (.ifCond .eq 15, 3) := g_153 15 bX6_gains rfl rfl
theorem dX6_gains_21 : decode cX6_gains 21 = .ok (.ifCond .ne 14, 3) := g_154 14 bX6_gains rfl rfl
theorem dX6_gains_25 : decode cX6_gains 25 = .ok (.bipush (-2), 2) := g_16 254 bX6_gains rfl rfl
theorem dX6_gains_42 : decode cX6_gains 42 = .ok (.ifCond .eq 9, 3) := g_153 9 bX6_gains rfl rfl
theorem dX6_run_9 : decode cX6_run 9 = .ok (.ifCond .eq 27, 3) := g_153 27 bX6_run rfl rfl
theorem dX6_run_21 : decode cX6_run 21 = .ok (.ifCond .eq 15, 3) := g_153 15 bX6_run rfl rfl
theorem dX6_run_33 : decode cX6_run 33 = .ok (.ifCond .ne 10, 3) := g_154 10 bX6_run rfl rfl
theorem dX6_run_37 : decode cX6_run 37 = .ok (.bipush (-2), 2) := g_16 254 bX6_run rfl rfl
theorem dX6_run_52 : decode cX6_run 52 = .ok (.ifCond .eq 6, 3) := g_153 6 bX6_run rfl rfl
theorem dX6_run_67 : decode cX6_run 67 = .ok (.tableswitch 44 0 2 #[25, 28, 36], 25) := by decide +kernel
theorem dX6_head_9 : decode cX6_head 9 = .ok (.ifCond .ne 10, 3) := g_154 10 bX6_head rfl rfl
theorem dX6_head_13 : decode cX6_head 13 = .ok (.bipush (-2), 2) := g_16 254 bX6_head rfl rfl
theorem dX6_head_28 : decode cX6_head 28 = .ok (.bipush 8, 2) := g_16 8 bX6_head rfl rfl
theorem dX6_head_30 : decode cX6_head 30 = .ok (.if_icmp .ge 46, 3) := g_162 46 bX6_head rfl rfl
theorem dX6_head_41 : decode cX6_head 41 = .ok (.if_icmp .ne 29, 3) := g_160 29 bX6_head rfl rfl
theorem dX6_head_55 : decode cX6_head 55 = .ok (.if_icmp .eq 9, 3) := g_159 9 bX6_head rfl rfl
theorem dX6_head_61 : decode cX6_head 61 = .ok (.if_icmp .le 9, 3) := g_164 9 bX6_head rfl rfl
theorem dX6_head_70 : decode cX6_head 70 = .ok (.iinc 4 1, 3) := g_132 1 bX6_head rfl rfl
theorem dX6_head_73 : decode cX6_head 73 = .ok (.goto (-47), 3) := g_167 65489 bX6_head rfl rfl
theorem dX6_head_78 : decode cX6_head 78 = .ok (.if_icmp .ne 12, 3) := g_160 12 bX6_head rfl rfl
theorem dX6_head_82 : decode cX6_head 82 = .ok (.bipush (-5), 2) := g_16 251 bX6_head rfl rfl
theorem dX6_head_87 : decode cX6_head 87 = .ok (.goto 4, 3) := g_167 4 bX6_head rfl rfl
theorem dX6_who_6 : decode cX6_who 6 = .ok (.ifCond .eq 15, 3) := g_153 15 bX6_who rfl rfl
theorem dX6_who_18 : decode cX6_who 18 = .ok (.ifCond .ne 10, 3) := g_154 10 bX6_who rfl rfl
theorem dX6_who_22 : decode cX6_who 22 = .ok (.bipush (-2), 2) := g_16 254 bX6_who rfl rfl
theorem dX6_who_33 : decode cX6_who 33 = .ok (.ifCond .eq 7, 3) := g_153 7 bX6_who rfl rfl
theorem dX6_who_37 : decode cX6_who 37 = .ok (.goto 9, 3) := g_167 9 bX6_who rfl rfl
theorem dX6_who_49 : decode cX6_who 49 = .ok (.if_icmp .ne 12, 3) := g_160 12 bX6_who rfl rfl
theorem dX6_who_53 : decode cX6_who 53 = .ok (.bipush (-5), 2) := g_16 251 bX6_who rfl rfl
theorem dX6_who_58 : decode cX6_who 58 = .ok (.goto 4, 3) := g_167 4 bX6_who rfl rfl
theorem dX6_bear_9 : decode cX6_bear 9 = .ok (.ifCond .ne 10, 3) := g_154 10 bX6_bear rfl rfl
theorem dX6_bear_13 : decode cX6_bear 13 = .ok (.bipush (-2), 2) := g_16 254 bX6_bear rfl rfl
theorem dX6_bear_35 : decode cX6_bear 35 = .ok (.ifCond .lt 44, 3) := g_155 44 bX6_bear rfl rfl
theorem dX6_bear_51 : decode cX6_bear 51 = .ok (.if_icmp .ne 20, 3) := g_160 20 bX6_bear rfl rfl
theorem dX6_bear_63 : decode cX6_bear 63 = .ok (.if_icmp .gt 8, 3) := g_163 8 bX6_bear rfl rfl
theorem dX6_bear_68 : decode cX6_bear 68 = .ok (.goto 4, 3) := g_167 4 bX6_bear rfl rfl
theorem dX6_bear_73 : decode cX6_bear 73 = .ok (.iinc 4 (-1), 3) := g_132 255 bX6_bear rfl rfl
theorem dX6_bear_76 : decode cX6_bear 76 = .ok (.goto (-43), 3) := g_167 65493 bX6_bear rfl rfl
theorem dX6_hangs_22 : decode cX6_hangs 22 = .ok (.if_icmp .ge 49, 3) := g_162 49 bX6_hangs rfl rfl
theorem dX6_hangs_31 : decode cX6_hangs 31 = .ok (.ifCond .eq 34, 3) := g_153 34 bX6_hangs rfl rfl
theorem dX6_hangs_50 : decode cX6_hangs 50 = .ok (.if_icmp .eq 9, 3) := g_159 9 bX6_hangs rfl rfl
theorem dX6_hangs_56 : decode cX6_hangs 56 = .ok (.if_icmp .ge 9, 3) := g_162 9 bX6_hangs rfl rfl
theorem dX6_hangs_65 : decode cX6_hangs 65 = .ok (.iinc 4 1, 3) := g_132 1 bX6_hangs rfl rfl
theorem dX6_hangs_68 : decode cX6_hangs 68 = .ok (.goto (-52), 3) := g_167 65484 bX6_hangs rfl rfl
theorem dX6_hangs_73 : decode cX6_hangs 73 = .ok (.if_icmp .ne 12, 3) := g_160 12 bX6_hangs rfl rfl
theorem dX6_hangs_77 : decode cX6_hangs 77 = .ok (.bipush (-5), 2) := g_16 251 bX6_hangs rfl rfl
theorem dX6_hangs_82 : decode cX6_hangs 82 = .ok (.goto 4, 3) := g_167 4 bX6_hangs rfl rfl
theorem dX6_left_9 : decode cX6_left 9 = .ok (.ifCond .eq 36, 3) := g_153 36 bX6_left rfl rfl
theorem dX6_left_21 : decode cX6_left 21 = .ok (.ifCond .eq 24, 3) := g_153 24 bX6_left rfl rfl
theorem dX6_left_33 : decode cX6_left 33 = .ok (.ifCond .eq 12, 3) := g_153 12 bX6_left rfl rfl
theorem dX6_left_42 : decode cX6_left 42 = .ok (.goto 9, 3) := g_167 9 bX6_left rfl rfl
theorem dX6_left_46 : decode cX6_left 46 = .ok (.bipush (-2), 2) := g_16 254 bX6_left rfl rfl
theorem dX6_longest_9 : decode cX6_longest 9 = .ok (.ifCond .eq 27, 3) := g_153 27 bX6_longest rfl rfl
theorem dX6_longest_21 : decode cX6_longest 21 = .ok (.ifCond .eq 15, 3) := g_153 15 bX6_longest rfl rfl
theorem dX6_longest_33 : decode cX6_longest 33 = .ok (.ifCond .ne 10, 3) := g_154 10 bX6_longest rfl rfl
theorem dX6_longest_37 : decode cX6_longest 37 = .ok (.bipush (-2), 2) := g_16 254 bX6_longest rfl rfl
theorem dX6_longest_48 : decode cX6_longest 48 = .ok (.bipush 99, 2) := g_16 99 bX6_longest rfl rfl
theorem dX6_longest_50 : decode cX6_longest 50 = .ok (.if_icmp .ge 22, 3) := g_162 22 bX6_longest rfl rfl
theorem dX6_longest_63 : decode cX6_longest 63 = .ok (.if_icmp .lt 9, 3) := g_161 9 bX6_longest rfl rfl
theorem dX6_longest_66 : decode cX6_longest 66 = .ok (.iinc 4 1, 3) := g_132 1 bX6_longest rfl rfl
theorem dX6_longest_69 : decode cX6_longest 69 = .ok (.goto (-23), 3) := g_167 65513 bX6_longest rfl rfl
theorem dX6_lost_9 : decode cX6_lost 9 = .ok (.ifCond .eq 19, 3) := g_153 19 bX6_lost rfl rfl
theorem dX6_lost_25 : decode cX6_lost 25 = .ok (.goto 9, 3) := g_167 9 bX6_lost rfl rfl
theorem dX6_lost_29 : decode cX6_lost 29 = .ok (.bipush (-2), 2) := g_16 254 bX6_lost rfl rfl
theorem dX6_judge_8 : decode cX6_judge 8 = .ok (.ifCond .eq 7, 3) := g_153 7 bX6_judge rfl rfl
theorem dX6_judge_12 : decode cX6_judge 12 = .ok (.goto 9, 3) := g_167 9 bX6_judge rfl rfl
theorem dX6_told_8 : decode cX6_told 8 = .ok (.ifCond .eq 5, 3) := g_153 5 bX6_told rfl rfl
theorem dX6_told_20 : decode cX6_told 20 = .ok (.if_icmp .ne 13, 3) := g_160 13 bX6_told rfl rfl
theorem dX6_told_30 : decode cX6_told 30 = .ok (.goto 9, 3) := g_167 9 bX6_told rfl rfl
theorem dX6_told_34 : decode cX6_told 34 = .ok (.bipush (-5), 2) := g_16 251 bX6_told rfl rfl
theorem dX6_years_9 : decode cX6_years 9 = .ok (.ifCond .eq 15, 3) := g_153 15 bX6_years rfl rfl
theorem dX6_years_21 : decode cX6_years 21 = .ok (.ifCond .ne 10, 3) := g_154 10 bX6_years rfl rfl
theorem dX6_years_25 : decode cX6_years 25 = .ok (.bipush (-2), 2) := g_16 254 bX6_years rfl rfl
theorem dX6_years_38 : decode cX6_years 38 = .ok (.ifCond .eq 5, 3) := g_153 5 bX6_years rfl rfl
theorem dX6_years_52 : decode cX6_years 52 = .ok (.if_icmp .ge 95, 3) := g_162 95 bX6_years rfl rfl
theorem dX6_years_90 : decode cX6_years 90 = .ok (.if_icmp .ge 46, 3) := g_162 46 bX6_years rfl rfl
theorem dX6_years_99 : decode cX6_years 99 = .ok (.ifCond .eq 31, 3) := g_153 31 bX6_years rfl rfl
theorem dX6_years_103 : decode cX6_years 103 = .ok (.bipush 20, 2) := g_16 20 bX6_years rfl rfl
theorem dX6_years_117 : decode cX6_years 117 = .ok (.if_icmp .ge 13, 3) := g_162 13 bX6_years rfl rfl
theorem dX6_years_130 : decode cX6_years 130 = .ok (.iinc 6 1, 3) := g_132 1 bX6_years rfl rfl
theorem dX6_years_133 : decode cX6_years 133 = .ok (.goto (-49), 3) := g_167 65487 bX6_years rfl rfl
theorem dX6_years_141 : decode cX6_years 141 = .ok (.iinc 5 1, 3) := g_132 1 bX6_years rfl rfl
theorem dX6_years_144 : decode cX6_years 144 = .ok (.goto (-95), 3) := g_167 65441 bX6_years rfl rfl
theorem dX6_back_4 : decode cX6_back 4 = .ok (.ifnonnull 10, 3) := g_199 10 bX6_back rfl rfl
theorem dX6_back_8 : decode cX6_back 8 = .ok (.bipush (-5), 2) := g_16 251 bX6_back rfl rfl
theorem dX6_image_4 : decode cX6_image 4 = .ok (.ifnonnull 14, 3) := g_199 14 bX6_image rfl rfl
theorem dX6_status_1 : decode cX6_status 1 = .ok (.tableswitch 131 0 8 #[51, 56, 61, 66, 76, 81, 86, 91, 96], 51) := by decide +kernel
theorem dX6_status_102 : decode cX6_status 102 = .ok (.bipush 8, 2) := g_16 8 bX6_status rfl rfl
theorem dX6_status_104 : decode cX6_status 104 = .ok (.if_icmp .ge 26, 3) := g_162 26 bX6_status rfl rfl
theorem dX6_status_114 : decode cX6_status 114 = .ok (.ifCond .eq 7, 3) := g_153 7 bX6_status rfl rfl
theorem dX6_status_118 : decode cX6_status 118 = .ok (.goto 4, 3) := g_167 4 bX6_status rfl rfl
theorem dX6_status_124 : decode cX6_status 124 = .ok (.iinc 3 1, 3) := g_132 1 bX6_status rfl rfl
theorem dX6_status_127 : decode cX6_status 127 = .ok (.goto (-26), 3) := g_167 65510 bX6_status rfl rfl
theorem dX6_status_143 : decode cX6_status 143 = .ok (.ifCond .eq 15, 3) := g_153 15 bX6_status rfl rfl
theorem dX6_status_151 : decode cX6_status 151 = .ok (.bipush 10, 2) := g_16 10 bX6_status rfl rfl
theorem dX6_status_155 : decode cX6_status 155 = .ok (.goto 4, 3) := g_167 4 bX6_status rfl rfl
theorem dX6_keeping_6 : decode cX6_keeping 6 = .ok (.ifCond .eq 17, 3) := g_153 17 bX6_keeping rfl rfl
theorem dX6_keeping_20 : decode cX6_keeping 20 = .ok (.ifCond .ne 14, 3) := g_154 14 bX6_keeping rfl rfl
theorem dX6_keeping_24 : decode cX6_keeping 24 = .ok (.bipush (-2), 2) := g_16 254 bX6_keeping rfl rfl
theorem dX6_keeping_39 : decode cX6_keeping 39 = .ok (.ifCond .ne 13, 3) := g_154 13 bX6_keeping rfl rfl
theorem dX6_keeping_49 : decode cX6_keeping 49 = .ok (.if_icmp .ne 14, 3) := g_160 14 bX6_keeping rfl rfl
theorem dX6_keeping_53 : decode cX6_keeping 53 = .ok (.bipush (-5), 2) := g_16 251 bX6_keeping rfl rfl
theorem dX6_keeping_67 : decode cX6_keeping 67 = .ok (.ifnonnull 14, 3) := g_199 14 bX6_keeping rfl rfl
theorem dX6_keeping_112 : decode cX6_keeping 112 = .ok (.if_icmp .ne 14, 3) := g_160 14 bX6_keeping rfl rfl
theorem dX6_keeping_116 : decode cX6_keeping 116 = .ok (.bipush (-5), 2) := g_16 251 bX6_keeping rfl rfl
theorem dX6_rowsFrom_3 : decode cX6_rowsFrom 3 = .ok (.if_icmp .ne 94, 3) := g_160 94 bX6_rowsFrom rfl rfl
theorem dX6_rowsFrom_18 : decode cX6_rowsFrom 18 = .ok (.if_icmp .ge 33, 3) := g_162 33 bX6_rowsFrom rfl rfl
theorem dX6_rowsFrom_45 : decode cX6_rowsFrom 45 = .ok (.iinc 7 1, 3) := g_132 1 bX6_rowsFrom rfl rfl
theorem dX6_rowsFrom_48 : decode cX6_rowsFrom 48 = .ok (.goto (-36), 3) := g_167 65500 bX6_rowsFrom rfl rfl
theorem dX6_rowsFrom_57 : decode cX6_rowsFrom 57 = .ok (.if_icmp .le 39, 3) := g_164 39 bX6_rowsFrom rfl rfl
theorem dX6_rowsFrom_73 : decode cX6_rowsFrom 73 = .ok (.if_icmp .ge 23, 3) := g_162 23 bX6_rowsFrom rfl rfl
theorem dX6_rowsFrom_90 : decode cX6_rowsFrom 90 = .ok (.iinc 7 1, 3) := g_132 1 bX6_rowsFrom rfl rfl
theorem dX6_rowsFrom_93 : decode cX6_rowsFrom 93 = .ok (.goto (-24), 3) := g_167 65512 bX6_rowsFrom rfl rfl
theorem dX6_rowsFrom_103 : decode cX6_rowsFrom 103 = .ok (.ifnonnull 16, 3) := g_199 16 bX6_rowsFrom rfl rfl
theorem dX6_rowsFrom_126 : decode cX6_rowsFrom 126 = .ok (.if_icmp .ge 82, 3) := g_162 82 bX6_rowsFrom rfl rfl
theorem dX6_rowsFrom_136 : decode cX6_rowsFrom 136 = .ok (.ifCond .ne 66, 3) := g_154 66 bX6_rowsFrom rfl rfl
theorem dX6_rowsFrom_202 : decode cX6_rowsFrom 202 = .ok (.iinc 6 1, 3) := g_132 1 bX6_rowsFrom rfl rfl
theorem dX6_rowsFrom_205 : decode cX6_rowsFrom 205 = .ok (.goto (-83), 3) := g_167 65453 bX6_rowsFrom rfl rfl
theorem dX6_order_11 : decode cX6_order 11 = .ok (.if_icmp .ge 29, 3) := g_162 29 bX6_order rfl rfl
theorem dX6_order_20 : decode cX6_order 20 = .ok (.ifCond .ne 14, 3) := g_154 14 bX6_order rfl rfl
theorem dX6_order_28 : decode cX6_order 28 = .ok (.iinc 3 1, 3) := g_132 1 bX6_order rfl rfl
theorem dX6_order_34 : decode cX6_order 34 = .ok (.iinc 4 1, 3) := g_132 1 bX6_order rfl rfl
theorem dX6_order_37 : decode cX6_order 37 = .ok (.goto (-32), 3) := g_167 65504 bX6_order rfl rfl
theorem dX6_order_46 : decode cX6_order 46 = .ok (.ifCond .eq 18, 3) := g_153 18 bX6_order rfl rfl
theorem dX6_order_61 : decode cX6_order 61 = .ok (.ifCond .ne 10, 3) := g_154 10 bX6_order rfl rfl
theorem dX6_order_65 : decode cX6_order 65 = .ok (.bipush (-2), 2) := g_16 254 bX6_order rfl rfl
theorem dX6_order_76 : decode cX6_order 76 = .ok (.ifCond .eq 8, 3) := g_153 8 bX6_order rfl rfl
theorem dX6_order_81 : decode cX6_order 81 = .ok (.if_icmp .le 10, 3) := g_164 10 bX6_order rfl rfl
theorem dX6_order_85 : decode cX6_order 85 = .ok (.bipush (-5), 2) := g_16 251 bX6_order rfl rfl
theorem dX6_order_107 : decode cX6_order 107 = .ok (.if_icmp .ne 10, 3) := g_160 10 bX6_order rfl rfl
theorem dX6_order_114 : decode cX6_order 114 = .ok (.goto 9, 3) := g_167 9 bX6_order rfl rfl
theorem dX0_init_1 : decode cX0_init 1 = .ok (.invokespecial 3, 3) := g_183 bX0_init rfl
theorem dX2_init_1 : decode cX2_init 1 = .ok (.invokespecial 3, 3) := g_183 bX2_init rfl
theorem dX2_init_5 : decode cX2_init 5 = .ok (.bipush 8, 2) := g_16 8 bX2_init rfl rfl
theorem dX2_init_13 : decode cX2_init 13 = .ok (.bipush 8, 2) := g_16 8 bX2_init rfl rfl
theorem dX2_init_21 : decode cX2_init 21 = .ok (.bipush 8, 2) := g_16 8 bX2_init rfl rfl
theorem dX2_init_29 : decode cX2_init 29 = .ok (.sipush 320, 3) := g_17 320 bX2_init rfl rfl
theorem dX2_init_40 : decode cX2_init 40 = .ok (.bipush 8, 2) := g_16 8 bX2_init rfl rfl
theorem dX2_init_42 : decode cX2_init 42 = .ok (.if_icmp .ge 16, 3) := g_162 16 bX2_init rfl rfl
theorem dX2_init_52 : decode cX2_init 52 = .ok (.iinc 1 1, 3) := g_132 1 bX2_init rfl rfl
theorem dX2_init_55 : decode cX2_init 55 = .ok (.goto (-16), 3) := g_167 65520 bX2_init rfl rfl
theorem dX3_init_1 : decode cX3_init 1 = .ok (.invokespecial 3, 3) := g_183 bX3_init rfl
theorem dX3_init_5 : decode cX3_init 5 = .ok (.sipush 250, 3) := g_17 250 bX3_init rfl rfl
theorem dX4_init_1 : decode cX4_init 1 = .ok (.invokespecial 3, 3) := g_183 bX4_init rfl
theorem dX4_init_10 : decode cX4_init 10 = .ok (.bipush 8, 2) := g_16 8 bX4_init rfl rfl
theorem dX4_init_18 : decode cX4_init 18 = .ok (.bipush 8, 2) := g_16 8 bX4_init rfl rfl
theorem dX4_init_26 : decode cX4_init 26 = .ok (.bipush 8, 2) := g_16 8 bX4_init rfl rfl
theorem dX4_init_34 : decode cX4_init 34 = .ok (.bipush 8, 2) := g_16 8 bX4_init rfl rfl
theorem dX4_init_42 : decode cX4_init 42 = .ok (.bipush 8, 2) := g_16 8 bX4_init rfl rfl
theorem dX4_init_50 : decode cX4_init 50 = .ok (.bipush 8, 2) := g_16 8 bX4_init rfl rfl
theorem dX4_init_58 : decode cX4_init 58 = .ok (.bipush 8, 2) := g_16 8 bX4_init rfl rfl
theorem dX4_init_66 : decode cX4_init 66 = .ok (.bipush 64, 2) := g_16 64 bX4_init rfl rfl
theorem dX5_init_1 : decode cX5_init 1 = .ok (.invokespecial 1, 3) := g_183 bX5_init rfl
theorem dL_law_284 : decode cL_law 284 = .ok (.goto 1523, 3) := g_167 1523 bL_law rfl rfl
theorem dL_law_304 : decode cL_law 304 = .ok (.bipush 32, 2) := g_16 32 bL_law rfl rfl
theorem dL_law_339 : decode cL_law 339 = .ok (.bipush 32, 2) := g_16 32 bL_law rfl rfl
theorem dL_law_357 : decode cL_law 357 = .ok (.goto 1450, 3) := g_167 1450 bL_law rfl rfl
theorem dL_law_420 : decode cL_law 420 = .ok (.goto 1387, 3) := g_167 1387 bL_law rfl rfl
theorem dL_law_453 : decode cL_law 453 = .ok (.goto 1354, 3) := g_167 1354 bL_law rfl rfl
theorem dL_law_476 : decode cL_law 476 = .ok (.goto 1331, 3) := g_167 1331 bL_law rfl rfl
theorem dL_law_519 : decode cL_law 519 = .ok (.goto 1288, 3) := g_167 1288 bL_law rfl rfl
theorem dL_law_552 : decode cL_law 552 = .ok (.goto 1255, 3) := g_167 1255 bL_law rfl rfl
theorem dL_law_585 : decode cL_law 585 = .ok (.goto 1222, 3) := g_167 1222 bL_law rfl rfl
theorem dL_law_638 : decode cL_law 638 = .ok (.goto 1169, 3) := g_167 1169 bL_law rfl rfl
theorem dL_law_671 : decode cL_law 671 = .ok (.goto 1136, 3) := g_167 1136 bL_law rfl rfl
theorem dL_law_1807 : decode cL_law 1807 = .ok (.iinc 3 6, 3) := g_132 6 bL_law rfl rfl
theorem dL_law_704 : decode cL_law 704 = .ok (.goto 1103, 3) := g_167 1103 bL_law rfl rfl
theorem dL_law_717 : decode cL_law 717 = .ok (.goto 1090, 3) := g_167 1090 bL_law rfl rfl
theorem dL_law_730 : decode cL_law 730 = .ok (.goto 1077, 3) := g_167 1077 bL_law rfl rfl
theorem dL_law_763 : decode cL_law 763 = .ok (.goto 1044, 3) := g_167 1044 bL_law rfl rfl
theorem dL_law_796 : decode cL_law 796 = .ok (.goto 1011, 3) := g_167 1011 bL_law rfl rfl
theorem dL_law_829 : decode cL_law 829 = .ok (.goto 978, 3) := g_167 978 bL_law rfl rfl
theorem dL_law_872 : decode cL_law 872 = .ok (.goto 935, 3) := g_167 935 bL_law rfl rfl
theorem dL_law_905 : decode cL_law 905 = .ok (.goto 902, 3) := g_167 902 bL_law rfl rfl
theorem dL_law_938 : decode cL_law 938 = .ok (.goto 869, 3) := g_167 869 bL_law rfl rfl
theorem dL_law_971 : decode cL_law 971 = .ok (.goto 836, 3) := g_167 836 bL_law rfl rfl
theorem dL_law_1014 : decode cL_law 1014 = .ok (.goto 793, 3) := g_167 793 bL_law rfl rfl
theorem dL_law_1057 : decode cL_law 1057 = .ok (.goto 750, 3) := g_167 750 bL_law rfl rfl
theorem dL_law_1090 : decode cL_law 1090 = .ok (.goto 717, 3) := g_167 717 bL_law rfl rfl
theorem dL_law_1103 : decode cL_law 1103 = .ok (.goto 704, 3) := g_167 704 bL_law rfl rfl
theorem dL_law_1126 : decode cL_law 1126 = .ok (.goto 681, 3) := g_167 681 bL_law rfl rfl
theorem dL_law_1169 : decode cL_law 1169 = .ok (.goto 638, 3) := g_167 638 bL_law rfl rfl
theorem dL_law_1192 : decode cL_law 1192 = .ok (.goto 615, 3) := g_167 615 bL_law rfl rfl
theorem dL_law_1225 : decode cL_law 1225 = .ok (.goto 582, 3) := g_167 582 bL_law rfl rfl
theorem dL_law_1258 : decode cL_law 1258 = .ok (.goto 549, 3) := g_167 549 bL_law rfl rfl
theorem dL_law_1291 : decode cL_law 1291 = .ok (.goto 516, 3) := g_167 516 bL_law rfl rfl
theorem dL_law_1334 : decode cL_law 1334 = .ok (.goto 473, 3) := g_167 473 bL_law rfl rfl
theorem dL_law_1377 : decode cL_law 1377 = .ok (.goto 430, 3) := g_167 430 bL_law rfl rfl
theorem dL_law_1390 : decode cL_law 1390 = .ok (.goto 417, 3) := g_167 417 bL_law rfl rfl
theorem dL_law_1413 : decode cL_law 1413 = .ok (.goto 394, 3) := g_167 394 bL_law rfl rfl
theorem dL_law_1436 : decode cL_law 1436 = .ok (.goto 371, 3) := g_167 371 bL_law rfl rfl
theorem dL_law_1459 : decode cL_law 1459 = .ok (.goto 348, 3) := g_167 348 bL_law rfl rfl
theorem dL_law_1492 : decode cL_law 1492 = .ok (.goto 315, 3) := g_167 315 bL_law rfl rfl
theorem dL_law_1506 : decode cL_law 1506 = .ok (.ifCond .eq 7, 3) := g_153 7 bL_law rfl rfl
theorem dL_law_1510 : decode cL_law 1510 = .ok (.goto 4, 3) := g_167 4 bL_law rfl rfl
theorem dL_law_1529 : decode cL_law 1529 = .ok (.ifCond .eq 7, 3) := g_153 7 bL_law rfl rfl
theorem dL_law_1533 : decode cL_law 1533 = .ok (.goto 4, 3) := g_167 4 bL_law rfl rfl
theorem dL_law_1541 : decode cL_law 1541 = .ok (.goto 266, 3) := g_167 266 bL_law rfl rfl
theorem dL_law_1554 : decode cL_law 1554 = .ok (.goto 253, 3) := g_167 253 bL_law rfl rfl
theorem dL_law_1587 : decode cL_law 1587 = .ok (.goto 220, 3) := g_167 220 bL_law rfl rfl
theorem dL_law_1618 : decode cL_law 1618 = .ok (.if_icmp .eq 189, 3) := g_159 189 bL_law rfl rfl
theorem dL_law_1653 : decode cL_law 1653 = .ok (.goto 154, 3) := g_167 154 bL_law rfl rfl
theorem dL_law_1686 : decode cL_law 1686 = .ok (.goto 121, 3) := g_167 121 bL_law rfl rfl
theorem dL_law_1719 : decode cL_law 1719 = .ok (.goto 88, 3) := g_167 88 bL_law rfl rfl
theorem dL_law_1732 : decode cL_law 1732 = .ok (.goto 75, 3) := g_167 75 bL_law rfl rfl
theorem dL_law_1755 : decode cL_law 1755 = .ok (.goto 52, 3) := g_167 52 bL_law rfl rfl
theorem dL_law_1768 : decode cL_law 1768 = .ok (.goto 39, 3) := g_167 39 bL_law rfl rfl
theorem dL_law_1781 : decode cL_law 1781 = .ok (.goto 26, 3) := g_167 26 bL_law rfl rfl
theorem dL_law_1804 : decode cL_law 1804 = .ok (.goto 3, 3) := g_167 3 bL_law rfl rfl
theorem dL_law_21 : decode cL_law 21 = .ok (.bipush 6, 2) := g_16 6 bL_law rfl rfl
theorem dL_law_24 : decode cL_law 24 = .ok (.if_icmp .gt 1789, 3) := g_163 1789 bL_law rfl rfl
theorem dL_law_30 : decode cL_law 30 = .ok (.bipush 63, 2) := g_16 63 bL_law rfl rfl
theorem dL_law_33 : decode cL_law 33 = .ok (.tableswitch 1774 0 48 #[211, 254, 327, 390, 423, 446, 489, 522, 555, 608, 641, 674, 687, 700, 733, 766, 799, 842, 875, 908, 941, 984, 1027, 1060, 1073, 1096, 1139, 1162, 1195, 1228, 1261, 1304, 1347, 1360, 1383, 1406, 1429, 1462, 1511, 1524, 1557, 1590, 1623, 1656, 1689, 1702, 1725, 1738, 1751], 211) := by decide +kernel
theorem dL_law_1810 : decode cL_law 1810 = .ok (.goto (-1792), 3) := g_167 63744 bL_law rfl rfl
