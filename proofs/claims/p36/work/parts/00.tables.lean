-- ===== PART A: goes FIRST, ahead of the names: the tables' words, and 'selects' of the private methods out of them =====
/-- a private method of a class that the tables say can be made, by its rows of tables_1 -/
noncomputable def lw_okq (q : MethodName × Nat) : Prop := (q.1.cls ≠ "java/lang/invoke/MethodHandle" ∧ q.1.cls ≠ "java/lang/invoke/VarHandle") ∧ Cond.instantiable q.1.cls q.2 ∈ tables_1 ∧ Cond.privateMethod q.1 ∈ tables_1 ∧ Cond.instanceMethod q.1 ∈ tables_1
theorem lw_p0 : lw_okq (⟨"EachBookOnce", "refuse", "(I)I"⟩, 9) := ⟨⟨by decide +kernel, by decide +kernel⟩, n_t16, n_t216, n_t217⟩
theorem lw_p1 : lw_okq (⟨"EachBookOnce", "rowFit", "(I)I"⟩, 9) := ⟨⟨by decide +kernel, by decide +kernel⟩, n_t16, n_t228, n_t229⟩
theorem lw_p2 : lw_okq (⟨"EachBookOnce", "copyFit", "(II)I"⟩, 9) := ⟨⟨by decide +kernel, by decide +kernel⟩, n_t16, n_t251, n_t252⟩
theorem lw_p3 : lw_okq (⟨"EachBookOnce", "hasSpan", "(III)Z"⟩, 9) := ⟨⟨by decide +kernel, by decide +kernel⟩, n_t16, n_t255, n_t256⟩
theorem lw_p4 : lw_okq (⟨"EachBookOnce", "ruleFit", "(I)I"⟩, 9) := ⟨⟨by decide +kernel, by decide +kernel⟩, n_t16, n_t292, n_t293⟩
theorem lw_p5 : lw_okq (⟨"EachBookOnce$Tape", "step", "()V"⟩, 7) := ⟨⟨by decide +kernel, by decide +kernel⟩, n_t141, n_t448, n_t449⟩
theorem lw_p6 : lw_okq (⟨"EachBookOnce$Tape", "sortAt", "(I)I"⟩, 7) := ⟨⟨by decide +kernel, by decide +kernel⟩, n_t141, n_t452, n_t453⟩
theorem lw_p7 : lw_okq (⟨"EachBookOnce$Tape", "readStatement", "()V"⟩, 7) := ⟨⟨by decide +kernel, by decide +kernel⟩, n_t141, n_t456, n_t457⟩
theorem lw_p8 : lw_okq (⟨"EachBookOnce$Tape", "isWord", "(Ljava/lang/String;)Z"⟩, 7) := ⟨⟨by decide +kernel, by decide +kernel⟩, n_t141, n_t461, n_t462⟩
theorem lw_p9 : lw_okq (⟨"EachBookOnce$Tape", "readBook", "()V"⟩, 7) := ⟨⟨by decide +kernel, by decide +kernel⟩, n_t141, n_t513, n_t514⟩
theorem lw_p10 : lw_okq (⟨"EachBookOnce$Tape", "fail", "()V"⟩, 7) := ⟨⟨by decide +kernel, by decide +kernel⟩, n_t141, n_t517, n_t518⟩
theorem lw_p11 : lw_okq (⟨"EachBookOnce$Tape", "takeNumber", "(II)I"⟩, 7) := ⟨⟨by decide +kernel, by decide +kernel⟩, n_t141, n_t521, n_t522⟩
theorem lw_p12 : lw_okq (⟨"EachBookOnce$Tape", "numberThere", "()I"⟩, 7) := ⟨⟨by decide +kernel, by decide +kernel⟩, n_t141, n_t525, n_t526⟩
theorem lw_p13 : lw_okq (⟨"EachBookOnce$Tape", "passes", "(Ljava/lang/String;)Z"⟩, 7) := ⟨⟨by decide +kernel, by decide +kernel⟩, n_t141, n_t530, n_t531⟩
theorem lw_p14 : lw_okq (⟨"EachBookOnce$Tape", "readNeed", "()V"⟩, 7) := ⟨⟨by decide +kernel, by decide +kernel⟩, n_t141, n_t536, n_t537⟩
theorem lw_p15 : lw_okq (⟨"EachBookOnce$Tape", "readOne", "()V"⟩, 7) := ⟨⟨by decide +kernel, by decide +kernel⟩, n_t141, n_t541, n_t542⟩
noncomputable def lw_privs_1 : List (MethodName × Nat) := [(⟨"EachBookOnce", "refuse", "(I)I"⟩, 9), (⟨"EachBookOnce", "rowFit", "(I)I"⟩, 9), (⟨"EachBookOnce", "copyFit", "(II)I"⟩, 9), (⟨"EachBookOnce", "hasSpan", "(III)Z"⟩, 9), (⟨"EachBookOnce", "ruleFit", "(I)I"⟩, 9), (⟨"EachBookOnce$Tape", "step", "()V"⟩, 7), (⟨"EachBookOnce$Tape", "sortAt", "(I)I"⟩, 7), (⟨"EachBookOnce$Tape", "readStatement", "()V"⟩, 7), (⟨"EachBookOnce$Tape", "isWord", "(Ljava/lang/String;)Z"⟩, 7), (⟨"EachBookOnce$Tape", "readBook", "()V"⟩, 7), (⟨"EachBookOnce$Tape", "fail", "()V"⟩, 7), (⟨"EachBookOnce$Tape", "takeNumber", "(II)I"⟩, 7), (⟨"EachBookOnce$Tape", "numberThere", "()I"⟩, 7), (⟨"EachBookOnce$Tape", "passes", "(Ljava/lang/String;)Z"⟩, 7), (⟨"EachBookOnce$Tape", "readNeed", "()V"⟩, 7), (⟨"EachBookOnce$Tape", "readOne", "()V"⟩, 7)]
theorem lw_r1 : ∀ q ∈ lw_privs_1, lw_okq q := List.forall_mem_cons.mpr ⟨lw_p0, List.forall_mem_cons.mpr ⟨lw_p1, List.forall_mem_cons.mpr ⟨lw_p2, List.forall_mem_cons.mpr ⟨lw_p3, List.forall_mem_cons.mpr ⟨lw_p4, List.forall_mem_cons.mpr ⟨lw_p5, List.forall_mem_cons.mpr ⟨lw_p6, List.forall_mem_cons.mpr ⟨lw_p7, List.forall_mem_cons.mpr ⟨lw_p8, List.forall_mem_cons.mpr ⟨lw_p9, List.forall_mem_cons.mpr ⟨lw_p10, List.forall_mem_cons.mpr ⟨lw_p11, List.forall_mem_cons.mpr ⟨lw_p12, List.forall_mem_cons.mpr ⟨lw_p13, List.forall_mem_cons.mpr ⟨lw_p14, List.forall_mem_cons.mpr ⟨lw_p15, fun _ h => absurd h List.not_mem_nil⟩⟩⟩⟩⟩⟩⟩⟩⟩⟩⟩⟩⟩⟩⟩⟩
theorem lw_p16 : lw_okq (⟨"EachBookOnce$Tape", "readKnows", "()V"⟩, 7) := ⟨⟨by decide +kernel, by decide +kernel⟩, n_t141, n_t550, n_t551⟩
theorem lw_p17 : lw_okq (⟨"EachBookOnce$Tape", "readWhite", "()V"⟩, 7) := ⟨⟨by decide +kernel, by decide +kernel⟩, n_t141, n_t556, n_t557⟩
theorem lw_p18 : lw_okq (⟨"EachBookOnce", "isPair", "(II)Z"⟩, 9) := ⟨⟨by decide +kernel, by decide +kernel⟩, n_t16, n_t583, n_t584⟩
theorem lw_p19 : lw_okq (⟨"EachBookOnce", "readFit", "(II)I"⟩, 9) := ⟨⟨by decide +kernel, by decide +kernel⟩, n_t16, n_t603, n_t604⟩
theorem lw_p20 : lw_okq (⟨"EachBookOnce$Town", "forget", "(I)V"⟩, 13) := ⟨⟨by decide +kernel, by decide +kernel⟩, n_t24, n_t658, n_t659⟩
theorem lw_p21 : lw_okq (⟨"EachBookOnce", "toldFit", "(II)I"⟩, 9) := ⟨⟨by decide +kernel, by decide +kernel⟩, n_t16, n_t785, n_t786⟩
theorem lw_p22 : lw_okq (⟨"EachBookOnce", "firstWrong", "(II)I"⟩, 9) := ⟨⟨by decide +kernel, by decide +kernel⟩, n_t16, n_t790, n_t791⟩
theorem lw_p23 : lw_okq (⟨"EachBookOnce$Town", "drawBelow20", "()I"⟩, 13) := ⟨⟨by decide +kernel, by decide +kernel⟩, n_t24, n_t807, n_t808⟩
theorem lw_p24 : lw_okq (⟨"EachBookOnceModel", "refuse", "(I)I"⟩, 35) := ⟨⟨by decide +kernel, by decide +kernel⟩, n_t839, n_t967, n_t968⟩
theorem lw_p25 : lw_okq (⟨"EachBookOnceModel", "noRow", "(I)I"⟩, 35) := ⟨⟨by decide +kernel, by decide +kernel⟩, n_t839, n_t975, n_t976⟩
theorem lw_p26 : lw_okq (⟨"EachBookOnceModel", "fresh", "()LEachBookOnceModel;"⟩, 35) := ⟨⟨by decide +kernel, by decide +kernel⟩, n_t839, n_t1007, n_t1008⟩
theorem lw_p27 : lw_okq (⟨"EachBookOnceModel", "takeFrom", "(LEachBookOnceModel;)V"⟩, 35) := ⟨⟨by decide +kernel, by decide +kernel⟩, n_t839, n_t1012, n_t1013⟩
theorem lw_p28 : lw_okq (⟨"EachBookOnceModel", "does", "(II)I"⟩, 35) := ⟨⟨by decide +kernel, by decide +kernel⟩, n_t839, n_t1019, n_t1020⟩
theorem lw_p29 : lw_okq (⟨"EachBookOnceModel", "readMost", "(IZ)I"⟩, 35) := ⟨⟨by decide +kernel, by decide +kernel⟩, n_t839, n_t1023, n_t1024⟩
theorem lw_p30 : lw_okq (⟨"EachBookOnceModel", "thereMany", "()I"⟩, 35) := ⟨⟨by decide +kernel, by decide +kernel⟩, n_t839, n_t1027, n_t1028⟩
theorem lw_p31 : lw_okq (⟨"EachBookOnceModel", "isThere", "(I)Z"⟩, 35) := ⟨⟨by decide +kernel, by decide +kernel⟩, n_t839, n_t1031, n_t1032⟩
noncomputable def lw_privs_2 : List (MethodName × Nat) := [(⟨"EachBookOnce$Tape", "readKnows", "()V"⟩, 7), (⟨"EachBookOnce$Tape", "readWhite", "()V"⟩, 7), (⟨"EachBookOnce", "isPair", "(II)Z"⟩, 9), (⟨"EachBookOnce", "readFit", "(II)I"⟩, 9), (⟨"EachBookOnce$Town", "forget", "(I)V"⟩, 13), (⟨"EachBookOnce", "toldFit", "(II)I"⟩, 9), (⟨"EachBookOnce", "firstWrong", "(II)I"⟩, 9), (⟨"EachBookOnce$Town", "drawBelow20", "()I"⟩, 13), (⟨"EachBookOnceModel", "refuse", "(I)I"⟩, 35), (⟨"EachBookOnceModel", "noRow", "(I)I"⟩, 35), (⟨"EachBookOnceModel", "fresh", "()LEachBookOnceModel;"⟩, 35), (⟨"EachBookOnceModel", "takeFrom", "(LEachBookOnceModel;)V"⟩, 35), (⟨"EachBookOnceModel", "does", "(II)I"⟩, 35), (⟨"EachBookOnceModel", "readMost", "(IZ)I"⟩, 35), (⟨"EachBookOnceModel", "thereMany", "()I"⟩, 35), (⟨"EachBookOnceModel", "isThere", "(I)Z"⟩, 35)]
theorem lw_r2 : ∀ q ∈ lw_privs_2, lw_okq q := List.forall_mem_cons.mpr ⟨lw_p16, List.forall_mem_cons.mpr ⟨lw_p17, List.forall_mem_cons.mpr ⟨lw_p18, List.forall_mem_cons.mpr ⟨lw_p19, List.forall_mem_cons.mpr ⟨lw_p20, List.forall_mem_cons.mpr ⟨lw_p21, List.forall_mem_cons.mpr ⟨lw_p22, List.forall_mem_cons.mpr ⟨lw_p23, List.forall_mem_cons.mpr ⟨lw_p24, List.forall_mem_cons.mpr ⟨lw_p25, List.forall_mem_cons.mpr ⟨lw_p26, List.forall_mem_cons.mpr ⟨lw_p27, List.forall_mem_cons.mpr ⟨lw_p28, List.forall_mem_cons.mpr ⟨lw_p29, List.forall_mem_cons.mpr ⟨lw_p30, List.forall_mem_cons.mpr ⟨lw_p31, fun _ h => absurd h List.not_mem_nil⟩⟩⟩⟩⟩⟩⟩⟩⟩⟩⟩⟩⟩⟩⟩⟩
theorem lw_p32 : lw_okq (⟨"EachBookOnceModel", "isWhite", "(I)Z"⟩, 35) := ⟨⟨by decide +kernel, by decide +kernel⟩, n_t839, n_t1035, n_t1036⟩
theorem lw_p33 : lw_okq (⟨"EachBookOnceModel", "readerOf", "(I)I"⟩, 35) := ⟨⟨by decide +kernel, by decide +kernel⟩, n_t839, n_t1039, n_t1040⟩
theorem lw_p34 : lw_okq (⟨"EachBookOnceModel", "wouldKnow", "(II)I"⟩, 35) := ⟨⟨by decide +kernel, by decide +kernel⟩, n_t839, n_t1043, n_t1044⟩
theorem lw_p35 : lw_okq (⟨"EachBookOnceModel", "byGround", "(III)I"⟩, 35) := ⟨⟨by decide +kernel, by decide +kernel⟩, n_t839, n_t1047, n_t1048⟩
theorem lw_p36 : lw_okq (⟨"EachBookOnceModel", "groundOf", "(II)I"⟩, 35) := ⟨⟨by decide +kernel, by decide +kernel⟩, n_t839, n_t1051, n_t1052⟩
theorem lw_p37 : lw_okq (⟨"EachBookOnceModel", "readsTo", "(III)I"⟩, 35) := ⟨⟨by decide +kernel, by decide +kernel⟩, n_t839, n_t1055, n_t1056⟩
theorem lw_p38 : lw_okq (⟨"EachBookOnceModel", "reads", "(II)V"⟩, 35) := ⟨⟨by decide +kernel, by decide +kernel⟩, n_t839, n_t1059, n_t1060⟩
theorem lw_p39 : lw_okq (⟨"EachBookOnceModel", "chain", "()V"⟩, 35) := ⟨⟨by decide +kernel, by decide +kernel⟩, n_t839, n_t1063, n_t1064⟩
theorem lw_p40 : lw_okq (⟨"EachBookOnceModel", "youngestBut", "(I)I"⟩, 35) := ⟨⟨by decide +kernel, by decide +kernel⟩, n_t839, n_t1067, n_t1068⟩
theorem lw_p41 : lw_okq (⟨"EachBookOnceModel", "moreBy", "(III)I"⟩, 35) := ⟨⟨by decide +kernel, by decide +kernel⟩, n_t839, n_t1071, n_t1072⟩
theorem lw_p42 : lw_okq (⟨"EachBookOnceModel", "valueNow", "()I"⟩, 35) := ⟨⟨by decide +kernel, by decide +kernel⟩, n_t839, n_t1075, n_t1076⟩
theorem lw_p43 : lw_okq (⟨"EachBookOnceModel", "valueOf", "(I)I"⟩, 35) := ⟨⟨by decide +kernel, by decide +kernel⟩, n_t839, n_t1079, n_t1080⟩
theorem lw_p44 : lw_okq (⟨"EachBookOnceModel", "greatest", "(II)I"⟩, 35) := ⟨⟨by decide +kernel, by decide +kernel⟩, n_t839, n_t1083, n_t1084⟩
theorem lw_p45 : lw_okq (⟨"EachBookOnceModel", "newBook", "(I)V"⟩, 35) := ⟨⟨by decide +kernel, by decide +kernel⟩, n_t839, n_t1091, n_t1092⟩
theorem lw_p46 : lw_okq (⟨"EachBookOnceModel", "add", "(JJJJ)I"⟩, 35) := ⟨⟨by decide +kernel, by decide +kernel⟩, n_t839, n_t1099, n_t1100⟩
theorem lw_p47 : lw_okq (⟨"EachBookOnceModel", "newOne", "()V"⟩, 35) := ⟨⟨by decide +kernel, by decide +kernel⟩, n_t839, n_t1105, n_t1106⟩
noncomputable def lw_privs_3 : List (MethodName × Nat) := [(⟨"EachBookOnceModel", "isWhite", "(I)Z"⟩, 35), (⟨"EachBookOnceModel", "readerOf", "(I)I"⟩, 35), (⟨"EachBookOnceModel", "wouldKnow", "(II)I"⟩, 35), (⟨"EachBookOnceModel", "byGround", "(III)I"⟩, 35), (⟨"EachBookOnceModel", "groundOf", "(II)I"⟩, 35), (⟨"EachBookOnceModel", "readsTo", "(III)I"⟩, 35), (⟨"EachBookOnceModel", "reads", "(II)V"⟩, 35), (⟨"EachBookOnceModel", "chain", "()V"⟩, 35), (⟨"EachBookOnceModel", "youngestBut", "(I)I"⟩, 35), (⟨"EachBookOnceModel", "moreBy", "(III)I"⟩, 35), (⟨"EachBookOnceModel", "valueNow", "()I"⟩, 35), (⟨"EachBookOnceModel", "valueOf", "(I)I"⟩, 35), (⟨"EachBookOnceModel", "greatest", "(II)I"⟩, 35), (⟨"EachBookOnceModel", "newBook", "(I)V"⟩, 35), (⟨"EachBookOnceModel", "add", "(JJJJ)I"⟩, 35), (⟨"EachBookOnceModel", "newOne", "()V"⟩, 35)]
theorem lw_r3 : ∀ q ∈ lw_privs_3, lw_okq q := List.forall_mem_cons.mpr ⟨lw_p32, List.forall_mem_cons.mpr ⟨lw_p33, List.forall_mem_cons.mpr ⟨lw_p34, List.forall_mem_cons.mpr ⟨lw_p35, List.forall_mem_cons.mpr ⟨lw_p36, List.forall_mem_cons.mpr ⟨lw_p37, List.forall_mem_cons.mpr ⟨lw_p38, List.forall_mem_cons.mpr ⟨lw_p39, List.forall_mem_cons.mpr ⟨lw_p40, List.forall_mem_cons.mpr ⟨lw_p41, List.forall_mem_cons.mpr ⟨lw_p42, List.forall_mem_cons.mpr ⟨lw_p43, List.forall_mem_cons.mpr ⟨lw_p44, List.forall_mem_cons.mpr ⟨lw_p45, List.forall_mem_cons.mpr ⟨lw_p46, List.forall_mem_cons.mpr ⟨lw_p47, fun _ h => absurd h List.not_mem_nil⟩⟩⟩⟩⟩⟩⟩⟩⟩⟩⟩⟩⟩⟩⟩⟩
theorem lw_p48 : lw_okq (⟨"EachBookOnceModel", "readAll", "()Z"⟩, 35) := ⟨⟨by decide +kernel, by decide +kernel⟩, n_t839, n_t1125, n_t1126⟩
theorem lw_p49 : lw_okq (⟨"EachBookOnceModel", "look", "()V"⟩, 35) := ⟨⟨by decide +kernel, by decide +kernel⟩, n_t839, n_t1129, n_t1130⟩
theorem lw_p50 : lw_okq (⟨"EachBookOnceModel", "statement", "()Z"⟩, 35) := ⟨⟨by decide +kernel, by decide +kernel⟩, n_t839, n_t1141, n_t1142⟩
theorem lw_p51 : lw_okq (⟨"EachBookOnceModel", "isWord", "(Ljava/lang/String;)Z"⟩, 35) := ⟨⟨by decide +kernel, by decide +kernel⟩, n_t839, n_t1146, n_t1147⟩
theorem lw_p52 : lw_okq (⟨"EachBookOnceModel", "tells", "(Ljava/lang/String;[IIII)Z"⟩, 35) := ⟨⟨by decide +kernel, by decide +kernel⟩, n_t839, n_t1152, n_t1153⟩
theorem lw_p53 : lw_okq (⟨"EachBookOnceModel", "wrong", "()Z"⟩, 35) := ⟨⟨by decide +kernel, by decide +kernel⟩, n_t839, n_t1156, n_t1157⟩
theorem lw_p54 : lw_okq (⟨"EachBookOnceModel", "number", "([IIII)Z"⟩, 35) := ⟨⟨by decide +kernel, by decide +kernel⟩, n_t839, n_t1160, n_t1161⟩
theorem lw_p55 : lw_okq (⟨"EachBookOnceModel", "perhaps", "(Ljava/lang/String;[IIII)Z"⟩, 35) := ⟨⟨by decide +kernel, by decide +kernel⟩, n_t839, n_t1165, n_t1166⟩
theorem lw_p56 : lw_okq (⟨"EachBookOnceModel", "isBook", "(J)Z"⟩, 35) := ⟨⟨by decide +kernel, by decide +kernel⟩, n_t839, n_t1180, n_t1181⟩
theorem lw_p57 : lw_okq (⟨"EachBookOnceModel", "isOne", "(J)Z"⟩, 35) := ⟨⟨by decide +kernel, by decide +kernel⟩, n_t839, n_t1188, n_t1189⟩
theorem lw_p58 : lw_okq (⟨"EachBookOnceModel", "noReading", "(II)I"⟩, 35) := ⟨⟨by decide +kernel, by decide +kernel⟩, n_t839, n_t1213, n_t1214⟩
theorem lw_p59 : lw_okq (⟨"EachBookOnceModel", "end", "()I"⟩, 35) := ⟨⟨by decide +kernel, by decide +kernel⟩, n_t839, n_t1261, n_t1262⟩
theorem lw_p60 : lw_okq (⟨"EachBookOnceModel", "noRule", "(I)I"⟩, 35) := ⟨⟨by decide +kernel, by decide +kernel⟩, n_t839, n_t1271, n_t1272⟩
theorem lw_p61 : lw_okq (⟨"EachBookOnceModel", "sumOf", "(II)I"⟩, 35) := ⟨⟨by decide +kernel, by decide +kernel⟩, n_t839, n_t1275, n_t1276⟩
theorem lw_p62 : lw_okq (⟨"EachBookOnceModel", "goes", "(III)I"⟩, 35) := ⟨⟨by decide +kernel, by decide +kernel⟩, n_t839, n_t1279, n_t1280⟩
theorem lw_p63 : lw_okq (⟨"EachBookOnceModel", "whiteMany", "()I"⟩, 35) := ⟨⟨by decide +kernel, by decide +kernel⟩, n_t839, n_t1283, n_t1284⟩
noncomputable def lw_privs_4 : List (MethodName × Nat) := [(⟨"EachBookOnceModel", "readAll", "()Z"⟩, 35), (⟨"EachBookOnceModel", "look", "()V"⟩, 35), (⟨"EachBookOnceModel", "statement", "()Z"⟩, 35), (⟨"EachBookOnceModel", "isWord", "(Ljava/lang/String;)Z"⟩, 35), (⟨"EachBookOnceModel", "tells", "(Ljava/lang/String;[IIII)Z"⟩, 35), (⟨"EachBookOnceModel", "wrong", "()Z"⟩, 35), (⟨"EachBookOnceModel", "number", "([IIII)Z"⟩, 35), (⟨"EachBookOnceModel", "perhaps", "(Ljava/lang/String;[IIII)Z"⟩, 35), (⟨"EachBookOnceModel", "isBook", "(J)Z"⟩, 35), (⟨"EachBookOnceModel", "isOne", "(J)Z"⟩, 35), (⟨"EachBookOnceModel", "noReading", "(II)I"⟩, 35), (⟨"EachBookOnceModel", "end", "()I"⟩, 35), (⟨"EachBookOnceModel", "noRule", "(I)I"⟩, 35), (⟨"EachBookOnceModel", "sumOf", "(II)I"⟩, 35), (⟨"EachBookOnceModel", "goes", "(III)I"⟩, 35), (⟨"EachBookOnceModel", "whiteMany", "()I"⟩, 35)]
theorem lw_r4 : ∀ q ∈ lw_privs_4, lw_okq q := List.forall_mem_cons.mpr ⟨lw_p48, List.forall_mem_cons.mpr ⟨lw_p49, List.forall_mem_cons.mpr ⟨lw_p50, List.forall_mem_cons.mpr ⟨lw_p51, List.forall_mem_cons.mpr ⟨lw_p52, List.forall_mem_cons.mpr ⟨lw_p53, List.forall_mem_cons.mpr ⟨lw_p54, List.forall_mem_cons.mpr ⟨lw_p55, List.forall_mem_cons.mpr ⟨lw_p56, List.forall_mem_cons.mpr ⟨lw_p57, List.forall_mem_cons.mpr ⟨lw_p58, List.forall_mem_cons.mpr ⟨lw_p59, List.forall_mem_cons.mpr ⟨lw_p60, List.forall_mem_cons.mpr ⟨lw_p61, List.forall_mem_cons.mpr ⟨lw_p62, List.forall_mem_cons.mpr ⟨lw_p63, fun _ h => absurd h List.not_mem_nil⟩⟩⟩⟩⟩⟩⟩⟩⟩⟩⟩⟩⟩⟩⟩⟩
theorem lw_p64 : lw_okq (⟨"EachBookOnceModel", "findWho", "(II)I"⟩, 35) := ⟨⟨by decide +kernel, by decide +kernel⟩, n_t839, n_t1300, n_t1301⟩
theorem lw_p65 : lw_okq (⟨"EachBookOnceModel", "rowsFrom", "(LEachBookOnceModel;IIII)V"⟩, 35) := ⟨⟨by decide +kernel, by decide +kernel⟩, n_t839, n_t1314, n_t1315⟩
theorem lw_p66 : lw_okq (⟨"EachBookOnceModel", "lostBy", "(II)I"⟩, 35) := ⟨⟨by decide +kernel, by decide +kernel⟩, n_t839, n_t1337, n_t1338⟩
theorem lw_p67 : lw_okq (⟨"EachBookOnceModel", "noTold", "(II)I"⟩, 35) := ⟨⟨by decide +kernel, by decide +kernel⟩, n_t839, n_t1352, n_t1353⟩
theorem lw_p68 : lw_okq (⟨"EachBookOnceModel", "wrongAt", "(II)I"⟩, 35) := ⟨⟨by decide +kernel, by decide +kernel⟩, n_t839, n_t1357, n_t1358⟩
theorem lw_p69 : lw_okq (⟨"EachBookOnceModel", "draw", "(I)I"⟩, 35) := ⟨⟨by decide +kernel, by decide +kernel⟩, n_t839, n_t1370, n_t1371⟩
noncomputable def lw_privs_5 : List (MethodName × Nat) := [(⟨"EachBookOnceModel", "findWho", "(II)I"⟩, 35), (⟨"EachBookOnceModel", "rowsFrom", "(LEachBookOnceModel;IIII)V"⟩, 35), (⟨"EachBookOnceModel", "lostBy", "(II)I"⟩, 35), (⟨"EachBookOnceModel", "noTold", "(II)I"⟩, 35), (⟨"EachBookOnceModel", "wrongAt", "(II)I"⟩, 35), (⟨"EachBookOnceModel", "draw", "(I)I"⟩, 35)]
theorem lw_r5 : ∀ q ∈ lw_privs_5, lw_okq q := List.forall_mem_cons.mpr ⟨lw_p64, List.forall_mem_cons.mpr ⟨lw_p65, List.forall_mem_cons.mpr ⟨lw_p66, List.forall_mem_cons.mpr ⟨lw_p67, List.forall_mem_cons.mpr ⟨lw_p68, List.forall_mem_cons.mpr ⟨lw_p69, fun _ h => absurd h List.not_mem_nil⟩⟩⟩⟩⟩⟩
noncomputable def lw_privs : List (MethodName × Nat) := lw_privs_1 ++ (lw_privs_2 ++ (lw_privs_3 ++ (lw_privs_4 ++ (lw_privs_5))))
noncomputable def lw_tbl : List Cond := k2_sels lw_privs ++ tables_1
theorem lw_privs_ok : ∀ q ∈ lw_privs, lw_okq q := by
  show ∀ q ∈ lw_privs_1 ++ (lw_privs_2 ++ (lw_privs_3 ++ (lw_privs_4 ++ (lw_privs_5)))), lw_okq q
  exact List.forall_mem_append.mpr ⟨lw_r1, List.forall_mem_append.mpr ⟨lw_r2, List.forall_mem_append.mpr ⟨lw_r3, List.forall_mem_append.mpr ⟨lw_r4, lw_r5⟩⟩⟩⟩
-- ===== end of PART A; then your names; then what follows =====
