section
-- ===== PART A: goes FIRST, ahead of the names: the tables' words, and 'selects' of the private methods out of them =====
/-- a private method of a class that the tables say can be made, by its rows of tables_1 -/
def lw_okq (q : MethodName × Nat) : Prop := (q.1.cls ≠ "java/lang/invoke/MethodHandle" ∧ q.1.cls ≠ "java/lang/invoke/VarHandle") ∧ Cond.instantiable q.1.cls q.2 ∈ tables_1 ∧ Cond.privateMethod q.1 ∈ tables_1 ∧ Cond.instanceMethod q.1 ∈ tables_1
theorem lw_p0 : lw_okq (⟨"EachBookOnce", "refuse", "(I)I"⟩, 9) := ⟨⟨by decide +kernel, by decide +kernel⟩, List.mem_of_getElem? (i := 16) (by decide +kernel), List.mem_of_getElem? (i := 216) (by decide +kernel), List.mem_of_getElem? (i := 217) (by decide +kernel)⟩
theorem lw_p1 : lw_okq (⟨"EachBookOnce", "rowFit", "(I)I"⟩, 9) := ⟨⟨by decide +kernel, by decide +kernel⟩, List.mem_of_getElem? (i := 16) (by decide +kernel), List.mem_of_getElem? (i := 228) (by decide +kernel), List.mem_of_getElem? (i := 229) (by decide +kernel)⟩
theorem lw_p2 : lw_okq (⟨"EachBookOnce", "copyFit", "(II)I"⟩, 9) := ⟨⟨by decide +kernel, by decide +kernel⟩, List.mem_of_getElem? (i := 16) (by decide +kernel), List.mem_of_getElem? (i := 251) (by decide +kernel), List.mem_of_getElem? (i := 252) (by decide +kernel)⟩
theorem lw_p3 : lw_okq (⟨"EachBookOnce", "hasSpan", "(III)Z"⟩, 9) := ⟨⟨by decide +kernel, by decide +kernel⟩, List.mem_of_getElem? (i := 16) (by decide +kernel), List.mem_of_getElem? (i := 255) (by decide +kernel), List.mem_of_getElem? (i := 256) (by decide +kernel)⟩
theorem lw_p4 : lw_okq (⟨"EachBookOnce", "ruleFit", "(I)I"⟩, 9) := ⟨⟨by decide +kernel, by decide +kernel⟩, List.mem_of_getElem? (i := 16) (by decide +kernel), List.mem_of_getElem? (i := 292) (by decide +kernel), List.mem_of_getElem? (i := 293) (by decide +kernel)⟩
theorem lw_p5 : lw_okq (⟨"EachBookOnce$Tape", "step", "()V"⟩, 7) := ⟨⟨by decide +kernel, by decide +kernel⟩, List.mem_of_getElem? (i := 141) (by decide +kernel), List.mem_of_getElem? (i := 448) (by decide +kernel), List.mem_of_getElem? (i := 449) (by decide +kernel)⟩
theorem lw_p6 : lw_okq (⟨"EachBookOnce$Tape", "sortAt", "(I)I"⟩, 7) := ⟨⟨by decide +kernel, by decide +kernel⟩, List.mem_of_getElem? (i := 141) (by decide +kernel), List.mem_of_getElem? (i := 452) (by decide +kernel), List.mem_of_getElem? (i := 453) (by decide +kernel)⟩
theorem lw_p7 : lw_okq (⟨"EachBookOnce$Tape", "readStatement", "()V"⟩, 7) := ⟨⟨by decide +kernel, by decide +kernel⟩, List.mem_of_getElem? (i := 141) (by decide +kernel), List.mem_of_getElem? (i := 456) (by decide +kernel), List.mem_of_getElem? (i := 457) (by decide +kernel)⟩
theorem lw_p8 : lw_okq (⟨"EachBookOnce$Tape", "isWord", "(Ljava/lang/String;)Z"⟩, 7) := ⟨⟨by decide +kernel, by decide +kernel⟩, List.mem_of_getElem? (i := 141) (by decide +kernel), List.mem_of_getElem? (i := 461) (by decide +kernel), List.mem_of_getElem? (i := 462) (by decide +kernel)⟩
theorem lw_p9 : lw_okq (⟨"EachBookOnce$Tape", "readBook", "()V"⟩, 7) := ⟨⟨by decide +kernel, by decide +kernel⟩, List.mem_of_getElem? (i := 141) (by decide +kernel), List.mem_of_getElem? (i := 513) (by decide +kernel), List.mem_of_getElem? (i := 514) (by decide +kernel)⟩
theorem lw_p10 : lw_okq (⟨"EachBookOnce$Tape", "fail", "()V"⟩, 7) := ⟨⟨by decide +kernel, by decide +kernel⟩, List.mem_of_getElem? (i := 141) (by decide +kernel), List.mem_of_getElem? (i := 517) (by decide +kernel), List.mem_of_getElem? (i := 518) (by decide +kernel)⟩
theorem lw_p11 : lw_okq (⟨"EachBookOnce$Tape", "takeNumber", "(II)I"⟩, 7) := ⟨⟨by decide +kernel, by decide +kernel⟩, List.mem_of_getElem? (i := 141) (by decide +kernel), List.mem_of_getElem? (i := 521) (by decide +kernel), List.mem_of_getElem? (i := 522) (by decide +kernel)⟩
theorem lw_p12 : lw_okq (⟨"EachBookOnce$Tape", "numberThere", "()I"⟩, 7) := ⟨⟨by decide +kernel, by decide +kernel⟩, List.mem_of_getElem? (i := 141) (by decide +kernel), List.mem_of_getElem? (i := 525) (by decide +kernel), List.mem_of_getElem? (i := 526) (by decide +kernel)⟩
theorem lw_p13 : lw_okq (⟨"EachBookOnce$Tape", "passes", "(Ljava/lang/String;)Z"⟩, 7) := ⟨⟨by decide +kernel, by decide +kernel⟩, List.mem_of_getElem? (i := 141) (by decide +kernel), List.mem_of_getElem? (i := 530) (by decide +kernel), List.mem_of_getElem? (i := 531) (by decide +kernel)⟩
theorem lw_p14 : lw_okq (⟨"EachBookOnce$Tape", "readNeed", "()V"⟩, 7) := ⟨⟨by decide +kernel, by decide +kernel⟩, List.mem_of_getElem? (i := 141) (by decide +kernel), List.mem_of_getElem? (i := 536) (by decide +kernel), List.mem_of_getElem? (i := 537) (by decide +kernel)⟩
theorem lw_p15 : lw_okq (⟨"EachBookOnce$Tape", "readOne", "()V"⟩, 7) := ⟨⟨by decide +kernel, by decide +kernel⟩, List.mem_of_getElem? (i := 141) (by decide +kernel), List.mem_of_getElem? (i := 541) (by decide +kernel), List.mem_of_getElem? (i := 542) (by decide +kernel)⟩
def lw_privs_1 : List (MethodName × Nat) := [(⟨"EachBookOnce", "refuse", "(I)I"⟩, 9), (⟨"EachBookOnce", "rowFit", "(I)I"⟩, 9), (⟨"EachBookOnce", "copyFit", "(II)I"⟩, 9), (⟨"EachBookOnce", "hasSpan", "(III)Z"⟩, 9), (⟨"EachBookOnce", "ruleFit", "(I)I"⟩, 9), (⟨"EachBookOnce$Tape", "step", "()V"⟩, 7), (⟨"EachBookOnce$Tape", "sortAt", "(I)I"⟩, 7), (⟨"EachBookOnce$Tape", "readStatement", "()V"⟩, 7), (⟨"EachBookOnce$Tape", "isWord", "(Ljava/lang/String;)Z"⟩, 7), (⟨"EachBookOnce$Tape", "readBook", "()V"⟩, 7), (⟨"EachBookOnce$Tape", "fail", "()V"⟩, 7), (⟨"EachBookOnce$Tape", "takeNumber", "(II)I"⟩, 7), (⟨"EachBookOnce$Tape", "numberThere", "()I"⟩, 7), (⟨"EachBookOnce$Tape", "passes", "(Ljava/lang/String;)Z"⟩, 7), (⟨"EachBookOnce$Tape", "readNeed", "()V"⟩, 7), (⟨"EachBookOnce$Tape", "readOne", "()V"⟩, 7)]
theorem lw_r1 : ∀ q ∈ lw_privs_1, lw_okq q := List.forall_mem_cons.mpr ⟨lw_p0, List.forall_mem_cons.mpr ⟨lw_p1, List.forall_mem_cons.mpr ⟨lw_p2, List.forall_mem_cons.mpr ⟨lw_p3, List.forall_mem_cons.mpr ⟨lw_p4, List.forall_mem_cons.mpr ⟨lw_p5, List.forall_mem_cons.mpr ⟨lw_p6, List.forall_mem_cons.mpr ⟨lw_p7, List.forall_mem_cons.mpr ⟨lw_p8, List.forall_mem_cons.mpr ⟨lw_p9, List.forall_mem_cons.mpr ⟨lw_p10, List.forall_mem_cons.mpr ⟨lw_p11, List.forall_mem_cons.mpr ⟨lw_p12, List.forall_mem_cons.mpr ⟨lw_p13, List.forall_mem_cons.mpr ⟨lw_p14, List.forall_mem_cons.mpr ⟨lw_p15, fun _ h => absurd h List.not_mem_nil⟩⟩⟩⟩⟩⟩⟩⟩⟩⟩⟩⟩⟩⟩⟩⟩
theorem lw_p16 : lw_okq (⟨"EachBookOnce$Tape", "readKnows", "()V"⟩, 7) := ⟨⟨by decide +kernel, by decide +kernel⟩, List.mem_of_getElem? (i := 141) (by decide +kernel), List.mem_of_getElem? (i := 550) (by decide +kernel), List.mem_of_getElem? (i := 551) (by decide +kernel)⟩
theorem lw_p17 : lw_okq (⟨"EachBookOnce$Tape", "readWhite", "()V"⟩, 7) := ⟨⟨by decide +kernel, by decide +kernel⟩, List.mem_of_getElem? (i := 141) (by decide +kernel), List.mem_of_getElem? (i := 556) (by decide +kernel), List.mem_of_getElem? (i := 557) (by decide +kernel)⟩
theorem lw_p18 : lw_okq (⟨"EachBookOnce", "isPair", "(II)Z"⟩, 9) := ⟨⟨by decide +kernel, by decide +kernel⟩, List.mem_of_getElem? (i := 16) (by decide +kernel), List.mem_of_getElem? (i := 583) (by decide +kernel), List.mem_of_getElem? (i := 584) (by decide +kernel)⟩
theorem lw_p19 : lw_okq (⟨"EachBookOnce", "readFit", "(II)I"⟩, 9) := ⟨⟨by decide +kernel, by decide +kernel⟩, List.mem_of_getElem? (i := 16) (by decide +kernel), List.mem_of_getElem? (i := 603) (by decide +kernel), List.mem_of_getElem? (i := 604) (by decide +kernel)⟩
theorem lw_p20 : lw_okq (⟨"EachBookOnce$Town", "forget", "(I)V"⟩, 13) := ⟨⟨by decide +kernel, by decide +kernel⟩, List.mem_of_getElem? (i := 24) (by decide +kernel), List.mem_of_getElem? (i := 658) (by decide +kernel), List.mem_of_getElem? (i := 659) (by decide +kernel)⟩
theorem lw_p21 : lw_okq (⟨"EachBookOnce", "toldFit", "(II)I"⟩, 9) := ⟨⟨by decide +kernel, by decide +kernel⟩, List.mem_of_getElem? (i := 16) (by decide +kernel), List.mem_of_getElem? (i := 785) (by decide +kernel), List.mem_of_getElem? (i := 786) (by decide +kernel)⟩
theorem lw_p22 : lw_okq (⟨"EachBookOnce", "firstWrong", "(II)I"⟩, 9) := ⟨⟨by decide +kernel, by decide +kernel⟩, List.mem_of_getElem? (i := 16) (by decide +kernel), List.mem_of_getElem? (i := 790) (by decide +kernel), List.mem_of_getElem? (i := 791) (by decide +kernel)⟩
theorem lw_p23 : lw_okq (⟨"EachBookOnce$Town", "drawBelow20", "()I"⟩, 13) := ⟨⟨by decide +kernel, by decide +kernel⟩, List.mem_of_getElem? (i := 24) (by decide +kernel), List.mem_of_getElem? (i := 807) (by decide +kernel), List.mem_of_getElem? (i := 808) (by decide +kernel)⟩
theorem lw_p24 : lw_okq (⟨"EachBookOnceModel", "refuse", "(I)I"⟩, 35) := ⟨⟨by decide +kernel, by decide +kernel⟩, List.mem_of_getElem? (i := 839) (by decide +kernel), List.mem_of_getElem? (i := 967) (by decide +kernel), List.mem_of_getElem? (i := 968) (by decide +kernel)⟩
theorem lw_p25 : lw_okq (⟨"EachBookOnceModel", "noRow", "(I)I"⟩, 35) := ⟨⟨by decide +kernel, by decide +kernel⟩, List.mem_of_getElem? (i := 839) (by decide +kernel), List.mem_of_getElem? (i := 975) (by decide +kernel), List.mem_of_getElem? (i := 976) (by decide +kernel)⟩
theorem lw_p26 : lw_okq (⟨"EachBookOnceModel", "fresh", "()LEachBookOnceModel;"⟩, 35) := ⟨⟨by decide +kernel, by decide +kernel⟩, List.mem_of_getElem? (i := 839) (by decide +kernel), List.mem_of_getElem? (i := 1007) (by decide +kernel), List.mem_of_getElem? (i := 1008) (by decide +kernel)⟩
theorem lw_p27 : lw_okq (⟨"EachBookOnceModel", "takeFrom", "(LEachBookOnceModel;)V"⟩, 35) := ⟨⟨by decide +kernel, by decide +kernel⟩, List.mem_of_getElem? (i := 839) (by decide +kernel), List.mem_of_getElem? (i := 1012) (by decide +kernel), List.mem_of_getElem? (i := 1013) (by decide +kernel)⟩
theorem lw_p28 : lw_okq (⟨"EachBookOnceModel", "does", "(II)I"⟩, 35) := ⟨⟨by decide +kernel, by decide +kernel⟩, List.mem_of_getElem? (i := 839) (by decide +kernel), List.mem_of_getElem? (i := 1019) (by decide +kernel), List.mem_of_getElem? (i := 1020) (by decide +kernel)⟩
theorem lw_p29 : lw_okq (⟨"EachBookOnceModel", "readMost", "(IZ)I"⟩, 35) := ⟨⟨by decide +kernel, by decide +kernel⟩, List.mem_of_getElem? (i := 839) (by decide +kernel), List.mem_of_getElem? (i := 1023) (by decide +kernel), List.mem_of_getElem? (i := 1024) (by decide +kernel)⟩
theorem lw_p30 : lw_okq (⟨"EachBookOnceModel", "thereMany", "()I"⟩, 35) := ⟨⟨by decide +kernel, by decide +kernel⟩, List.mem_of_getElem? (i := 839) (by decide +kernel), List.mem_of_getElem? (i := 1027) (by decide +kernel), List.mem_of_getElem? (i := 1028) (by decide +kernel)⟩
theorem lw_p31 : lw_okq (⟨"EachBookOnceModel", "isThere", "(I)Z"⟩, 35) := ⟨⟨by decide +kernel, by decide +kernel⟩, List.mem_of_getElem? (i := 839) (by decide +kernel), List.mem_of_getElem? (i := 1031) (by decide +kernel), List.mem_of_getElem? (i := 1032) (by decide +kernel)⟩
def lw_privs_2 : List (MethodName × Nat) := [(⟨"EachBookOnce$Tape", "readKnows", "()V"⟩, 7), (⟨"EachBookOnce$Tape", "readWhite", "()V"⟩, 7), (⟨"EachBookOnce", "isPair", "(II)Z"⟩, 9), (⟨"EachBookOnce", "readFit", "(II)I"⟩, 9), (⟨"EachBookOnce$Town", "forget", "(I)V"⟩, 13), (⟨"EachBookOnce", "toldFit", "(II)I"⟩, 9), (⟨"EachBookOnce", "firstWrong", "(II)I"⟩, 9), (⟨"EachBookOnce$Town", "drawBelow20", "()I"⟩, 13), (⟨"EachBookOnceModel", "refuse", "(I)I"⟩, 35), (⟨"EachBookOnceModel", "noRow", "(I)I"⟩, 35), (⟨"EachBookOnceModel", "fresh", "()LEachBookOnceModel;"⟩, 35), (⟨"EachBookOnceModel", "takeFrom", "(LEachBookOnceModel;)V"⟩, 35), (⟨"EachBookOnceModel", "does", "(II)I"⟩, 35), (⟨"EachBookOnceModel", "readMost", "(IZ)I"⟩, 35), (⟨"EachBookOnceModel", "thereMany", "()I"⟩, 35), (⟨"EachBookOnceModel", "isThere", "(I)Z"⟩, 35)]
theorem lw_r2 : ∀ q ∈ lw_privs_2, lw_okq q := List.forall_mem_cons.mpr ⟨lw_p16, List.forall_mem_cons.mpr ⟨lw_p17, List.forall_mem_cons.mpr ⟨lw_p18, List.forall_mem_cons.mpr ⟨lw_p19, List.forall_mem_cons.mpr ⟨lw_p20, List.forall_mem_cons.mpr ⟨lw_p21, List.forall_mem_cons.mpr ⟨lw_p22, List.forall_mem_cons.mpr ⟨lw_p23, List.forall_mem_cons.mpr ⟨lw_p24, List.forall_mem_cons.mpr ⟨lw_p25, List.forall_mem_cons.mpr ⟨lw_p26, List.forall_mem_cons.mpr ⟨lw_p27, List.forall_mem_cons.mpr ⟨lw_p28, List.forall_mem_cons.mpr ⟨lw_p29, List.forall_mem_cons.mpr ⟨lw_p30, List.forall_mem_cons.mpr ⟨lw_p31, fun _ h => absurd h List.not_mem_nil⟩⟩⟩⟩⟩⟩⟩⟩⟩⟩⟩⟩⟩⟩⟩⟩
theorem lw_p32 : lw_okq (⟨"EachBookOnceModel", "isWhite", "(I)Z"⟩, 35) := ⟨⟨by decide +kernel, by decide +kernel⟩, List.mem_of_getElem? (i := 839) (by decide +kernel), List.mem_of_getElem? (i := 1035) (by decide +kernel), List.mem_of_getElem? (i := 1036) (by decide +kernel)⟩
theorem lw_p33 : lw_okq (⟨"EachBookOnceModel", "readerOf", "(I)I"⟩, 35) := ⟨⟨by decide +kernel, by decide +kernel⟩, List.mem_of_getElem? (i := 839) (by decide +kernel), List.mem_of_getElem? (i := 1039) (by decide +kernel), List.mem_of_getElem? (i := 1040) (by decide +kernel)⟩
theorem lw_p34 : lw_okq (⟨"EachBookOnceModel", "wouldKnow", "(II)I"⟩, 35) := ⟨⟨by decide +kernel, by decide +kernel⟩, List.mem_of_getElem? (i := 839) (by decide +kernel), List.mem_of_getElem? (i := 1043) (by decide +kernel), List.mem_of_getElem? (i := 1044) (by decide +kernel)⟩
theorem lw_p35 : lw_okq (⟨"EachBookOnceModel", "byGround", "(III)I"⟩, 35) := ⟨⟨by decide +kernel, by decide +kernel⟩, List.mem_of_getElem? (i := 839) (by decide +kernel), List.mem_of_getElem? (i := 1047) (by decide +kernel), List.mem_of_getElem? (i := 1048) (by decide +kernel)⟩
theorem lw_p36 : lw_okq (⟨"EachBookOnceModel", "groundOf", "(II)I"⟩, 35) := ⟨⟨by decide +kernel, by decide +kernel⟩, List.mem_of_getElem? (i := 839) (by decide +kernel), List.mem_of_getElem? (i := 1051) (by decide +kernel), List.mem_of_getElem? (i := 1052) (by decide +kernel)⟩
theorem lw_p37 : lw_okq (⟨"EachBookOnceModel", "readsTo", "(III)I"⟩, 35) := ⟨⟨by decide +kernel, by decide +kernel⟩, List.mem_of_getElem? (i := 839) (by decide +kernel), List.mem_of_getElem? (i := 1055) (by decide +kernel), List.mem_of_getElem? (i := 1056) (by decide +kernel)⟩
theorem lw_p38 : lw_okq (⟨"EachBookOnceModel", "reads", "(II)V"⟩, 35) := ⟨⟨by decide +kernel, by decide +kernel⟩, List.mem_of_getElem? (i := 839) (by decide +kernel), List.mem_of_getElem? (i := 1059) (by decide +kernel), List.mem_of_getElem? (i := 1060) (by decide +kernel)⟩
theorem lw_p39 : lw_okq (⟨"EachBookOnceModel", "chain", "()V"⟩, 35) := ⟨⟨by decide +kernel, by decide +kernel⟩, List.mem_of_getElem? (i := 839) (by decide +kernel), List.mem_of_getElem? (i := 1063) (by decide +kernel), List.mem_of_getElem? (i := 1064) (by decide +kernel)⟩
theorem lw_p40 : lw_okq (⟨"EachBookOnceModel", "youngestBut", "(I)I"⟩, 35) := ⟨⟨by decide +kernel, by decide +kernel⟩, List.mem_of_getElem? (i := 839) (by decide +kernel), List.mem_of_getElem? (i := 1067) (by decide +kernel), List.mem_of_getElem? (i := 1068) (by decide +kernel)⟩
theorem lw_p41 : lw_okq (⟨"EachBookOnceModel", "moreBy", "(III)I"⟩, 35) := ⟨⟨by decide +kernel, by decide +kernel⟩, List.mem_of_getElem? (i := 839) (by decide +kernel), List.mem_of_getElem? (i := 1071) (by decide +kernel), List.mem_of_getElem? (i := 1072) (by decide +kernel)⟩
theorem lw_p42 : lw_okq (⟨"EachBookOnceModel", "valueNow", "()I"⟩, 35) := ⟨⟨by decide +kernel, by decide +kernel⟩, List.mem_of_getElem? (i := 839) (by decide +kernel), List.mem_of_getElem? (i := 1075) (by decide +kernel), List.mem_of_getElem? (i := 1076) (by decide +kernel)⟩
theorem lw_p43 : lw_okq (⟨"EachBookOnceModel", "valueOf", "(I)I"⟩, 35) := ⟨⟨by decide +kernel, by decide +kernel⟩, List.mem_of_getElem? (i := 839) (by decide +kernel), List.mem_of_getElem? (i := 1079) (by decide +kernel), List.mem_of_getElem? (i := 1080) (by decide +kernel)⟩
theorem lw_p44 : lw_okq (⟨"EachBookOnceModel", "greatest", "(II)I"⟩, 35) := ⟨⟨by decide +kernel, by decide +kernel⟩, List.mem_of_getElem? (i := 839) (by decide +kernel), List.mem_of_getElem? (i := 1083) (by decide +kernel), List.mem_of_getElem? (i := 1084) (by decide +kernel)⟩
theorem lw_p45 : lw_okq (⟨"EachBookOnceModel", "newBook", "(I)V"⟩, 35) := ⟨⟨by decide +kernel, by decide +kernel⟩, List.mem_of_getElem? (i := 839) (by decide +kernel), List.mem_of_getElem? (i := 1091) (by decide +kernel), List.mem_of_getElem? (i := 1092) (by decide +kernel)⟩
theorem lw_p46 : lw_okq (⟨"EachBookOnceModel", "add", "(JJJJ)I"⟩, 35) := ⟨⟨by decide +kernel, by decide +kernel⟩, List.mem_of_getElem? (i := 839) (by decide +kernel), List.mem_of_getElem? (i := 1099) (by decide +kernel), List.mem_of_getElem? (i := 1100) (by decide +kernel)⟩
theorem lw_p47 : lw_okq (⟨"EachBookOnceModel", "newOne", "()V"⟩, 35) := ⟨⟨by decide +kernel, by decide +kernel⟩, List.mem_of_getElem? (i := 839) (by decide +kernel), List.mem_of_getElem? (i := 1105) (by decide +kernel), List.mem_of_getElem? (i := 1106) (by decide +kernel)⟩
def lw_privs_3 : List (MethodName × Nat) := [(⟨"EachBookOnceModel", "isWhite", "(I)Z"⟩, 35), (⟨"EachBookOnceModel", "readerOf", "(I)I"⟩, 35), (⟨"EachBookOnceModel", "wouldKnow", "(II)I"⟩, 35), (⟨"EachBookOnceModel", "byGround", "(III)I"⟩, 35), (⟨"EachBookOnceModel", "groundOf", "(II)I"⟩, 35), (⟨"EachBookOnceModel", "readsTo", "(III)I"⟩, 35), (⟨"EachBookOnceModel", "reads", "(II)V"⟩, 35), (⟨"EachBookOnceModel", "chain", "()V"⟩, 35), (⟨"EachBookOnceModel", "youngestBut", "(I)I"⟩, 35), (⟨"EachBookOnceModel", "moreBy", "(III)I"⟩, 35), (⟨"EachBookOnceModel", "valueNow", "()I"⟩, 35), (⟨"EachBookOnceModel", "valueOf", "(I)I"⟩, 35), (⟨"EachBookOnceModel", "greatest", "(II)I"⟩, 35), (⟨"EachBookOnceModel", "newBook", "(I)V"⟩, 35), (⟨"EachBookOnceModel", "add", "(JJJJ)I"⟩, 35), (⟨"EachBookOnceModel", "newOne", "()V"⟩, 35)]
theorem lw_r3 : ∀ q ∈ lw_privs_3, lw_okq q := List.forall_mem_cons.mpr ⟨lw_p32, List.forall_mem_cons.mpr ⟨lw_p33, List.forall_mem_cons.mpr ⟨lw_p34, List.forall_mem_cons.mpr ⟨lw_p35, List.forall_mem_cons.mpr ⟨lw_p36, List.forall_mem_cons.mpr ⟨lw_p37, List.forall_mem_cons.mpr ⟨lw_p38, List.forall_mem_cons.mpr ⟨lw_p39, List.forall_mem_cons.mpr ⟨lw_p40, List.forall_mem_cons.mpr ⟨lw_p41, List.forall_mem_cons.mpr ⟨lw_p42, List.forall_mem_cons.mpr ⟨lw_p43, List.forall_mem_cons.mpr ⟨lw_p44, List.forall_mem_cons.mpr ⟨lw_p45, List.forall_mem_cons.mpr ⟨lw_p46, List.forall_mem_cons.mpr ⟨lw_p47, fun _ h => absurd h List.not_mem_nil⟩⟩⟩⟩⟩⟩⟩⟩⟩⟩⟩⟩⟩⟩⟩⟩
theorem lw_p48 : lw_okq (⟨"EachBookOnceModel", "readAll", "()Z"⟩, 35) := ⟨⟨by decide +kernel, by decide +kernel⟩, List.mem_of_getElem? (i := 839) (by decide +kernel), List.mem_of_getElem? (i := 1125) (by decide +kernel), List.mem_of_getElem? (i := 1126) (by decide +kernel)⟩
theorem lw_p49 : lw_okq (⟨"EachBookOnceModel", "look", "()V"⟩, 35) := ⟨⟨by decide +kernel, by decide +kernel⟩, List.mem_of_getElem? (i := 839) (by decide +kernel), List.mem_of_getElem? (i := 1129) (by decide +kernel), List.mem_of_getElem? (i := 1130) (by decide +kernel)⟩
theorem lw_p50 : lw_okq (⟨"EachBookOnceModel", "statement", "()Z"⟩, 35) := ⟨⟨by decide +kernel, by decide +kernel⟩, List.mem_of_getElem? (i := 839) (by decide +kernel), List.mem_of_getElem? (i := 1141) (by decide +kernel), List.mem_of_getElem? (i := 1142) (by decide +kernel)⟩
theorem lw_p51 : lw_okq (⟨"EachBookOnceModel", "isWord", "(Ljava/lang/String;)Z"⟩, 35) := ⟨⟨by decide +kernel, by decide +kernel⟩, List.mem_of_getElem? (i := 839) (by decide +kernel), List.mem_of_getElem? (i := 1146) (by decide +kernel), List.mem_of_getElem? (i := 1147) (by decide +kernel)⟩
theorem lw_p52 : lw_okq (⟨"EachBookOnceModel", "tells", "(Ljava/lang/String;[IIII)Z"⟩, 35) := ⟨⟨by decide +kernel, by decide +kernel⟩, List.mem_of_getElem? (i := 839) (by decide +kernel), List.mem_of_getElem? (i := 1152) (by decide +kernel), List.mem_of_getElem? (i := 1153) (by decide +kernel)⟩
theorem lw_p53 : lw_okq (⟨"EachBookOnceModel", "wrong", "()Z"⟩, 35) := ⟨⟨by decide +kernel, by decide +kernel⟩, List.mem_of_getElem? (i := 839) (by decide +kernel), List.mem_of_getElem? (i := 1156) (by decide +kernel), List.mem_of_getElem? (i := 1157) (by decide +kernel)⟩
theorem lw_p54 : lw_okq (⟨"EachBookOnceModel", "number", "([IIII)Z"⟩, 35) := ⟨⟨by decide +kernel, by decide +kernel⟩, List.mem_of_getElem? (i := 839) (by decide +kernel), List.mem_of_getElem? (i := 1160) (by decide +kernel), List.mem_of_getElem? (i := 1161) (by decide +kernel)⟩
theorem lw_p55 : lw_okq (⟨"EachBookOnceModel", "perhaps", "(Ljava/lang/String;[IIII)Z"⟩, 35) := ⟨⟨by decide +kernel, by decide +kernel⟩, List.mem_of_getElem? (i := 839) (by decide +kernel), List.mem_of_getElem? (i := 1165) (by decide +kernel), List.mem_of_getElem? (i := 1166) (by decide +kernel)⟩
theorem lw_p56 : lw_okq (⟨"EachBookOnceModel", "isBook", "(J)Z"⟩, 35) := ⟨⟨by decide +kernel, by decide +kernel⟩, List.mem_of_getElem? (i := 839) (by decide +kernel), List.mem_of_getElem? (i := 1180) (by decide +kernel), List.mem_of_getElem? (i := 1181) (by decide +kernel)⟩
theorem lw_p57 : lw_okq (⟨"EachBookOnceModel", "isOne", "(J)Z"⟩, 35) := ⟨⟨by decide +kernel, by decide +kernel⟩, List.mem_of_getElem? (i := 839) (by decide +kernel), List.mem_of_getElem? (i := 1188) (by decide +kernel), List.mem_of_getElem? (i := 1189) (by decide +kernel)⟩
theorem lw_p58 : lw_okq (⟨"EachBookOnceModel", "noReading", "(II)I"⟩, 35) := ⟨⟨by decide +kernel, by decide +kernel⟩, List.mem_of_getElem? (i := 839) (by decide +kernel), List.mem_of_getElem? (i := 1213) (by decide +kernel), List.mem_of_getElem? (i := 1214) (by decide +kernel)⟩
theorem lw_p59 : lw_okq (⟨"EachBookOnceModel", "end", "()I"⟩, 35) := ⟨⟨by decide +kernel, by decide +kernel⟩, List.mem_of_getElem? (i := 839) (by decide +kernel), List.mem_of_getElem? (i := 1261) (by decide +kernel), List.mem_of_getElem? (i := 1262) (by decide +kernel)⟩
theorem lw_p60 : lw_okq (⟨"EachBookOnceModel", "noRule", "(I)I"⟩, 35) := ⟨⟨by decide +kernel, by decide +kernel⟩, List.mem_of_getElem? (i := 839) (by decide +kernel), List.mem_of_getElem? (i := 1271) (by decide +kernel), List.mem_of_getElem? (i := 1272) (by decide +kernel)⟩
theorem lw_p61 : lw_okq (⟨"EachBookOnceModel", "sumOf", "(II)I"⟩, 35) := ⟨⟨by decide +kernel, by decide +kernel⟩, List.mem_of_getElem? (i := 839) (by decide +kernel), List.mem_of_getElem? (i := 1275) (by decide +kernel), List.mem_of_getElem? (i := 1276) (by decide +kernel)⟩
theorem lw_p62 : lw_okq (⟨"EachBookOnceModel", "goes", "(III)I"⟩, 35) := ⟨⟨by decide +kernel, by decide +kernel⟩, List.mem_of_getElem? (i := 839) (by decide +kernel), List.mem_of_getElem? (i := 1279) (by decide +kernel), List.mem_of_getElem? (i := 1280) (by decide +kernel)⟩
theorem lw_p63 : lw_okq (⟨"EachBookOnceModel", "whiteMany", "()I"⟩, 35) := ⟨⟨by decide +kernel, by decide +kernel⟩, List.mem_of_getElem? (i := 839) (by decide +kernel), List.mem_of_getElem? (i := 1283) (by decide +kernel), List.mem_of_getElem? (i := 1284) (by decide +kernel)⟩
def lw_privs_4 : List (MethodName × Nat) := [(⟨"EachBookOnceModel", "readAll", "()Z"⟩, 35), (⟨"EachBookOnceModel", "look", "()V"⟩, 35), (⟨"EachBookOnceModel", "statement", "()Z"⟩, 35), (⟨"EachBookOnceModel", "isWord", "(Ljava/lang/String;)Z"⟩, 35), (⟨"EachBookOnceModel", "tells", "(Ljava/lang/String;[IIII)Z"⟩, 35), (⟨"EachBookOnceModel", "wrong", "()Z"⟩, 35), (⟨"EachBookOnceModel", "number", "([IIII)Z"⟩, 35), (⟨"EachBookOnceModel", "perhaps", "(Ljava/lang/String;[IIII)Z"⟩, 35), (⟨"EachBookOnceModel", "isBook", "(J)Z"⟩, 35), (⟨"EachBookOnceModel", "isOne", "(J)Z"⟩, 35), (⟨"EachBookOnceModel", "noReading", "(II)I"⟩, 35), (⟨"EachBookOnceModel", "end", "()I"⟩, 35), (⟨"EachBookOnceModel", "noRule", "(I)I"⟩, 35), (⟨"EachBookOnceModel", "sumOf", "(II)I"⟩, 35), (⟨"EachBookOnceModel", "goes", "(III)I"⟩, 35), (⟨"EachBookOnceModel", "whiteMany", "()I"⟩, 35)]
theorem lw_r4 : ∀ q ∈ lw_privs_4, lw_okq q := List.forall_mem_cons.mpr ⟨lw_p48, List.forall_mem_cons.mpr ⟨lw_p49, List.forall_mem_cons.mpr ⟨lw_p50, List.forall_mem_cons.mpr ⟨lw_p51, List.forall_mem_cons.mpr ⟨lw_p52, List.forall_mem_cons.mpr ⟨lw_p53, List.forall_mem_cons.mpr ⟨lw_p54, List.forall_mem_cons.mpr ⟨lw_p55, List.forall_mem_cons.mpr ⟨lw_p56, List.forall_mem_cons.mpr ⟨lw_p57, List.forall_mem_cons.mpr ⟨lw_p58, List.forall_mem_cons.mpr ⟨lw_p59, List.forall_mem_cons.mpr ⟨lw_p60, List.forall_mem_cons.mpr ⟨lw_p61, List.forall_mem_cons.mpr ⟨lw_p62, List.forall_mem_cons.mpr ⟨lw_p63, fun _ h => absurd h List.not_mem_nil⟩⟩⟩⟩⟩⟩⟩⟩⟩⟩⟩⟩⟩⟩⟩⟩
theorem lw_p64 : lw_okq (⟨"EachBookOnceModel", "findWho", "(II)I"⟩, 35) := ⟨⟨by decide +kernel, by decide +kernel⟩, List.mem_of_getElem? (i := 839) (by decide +kernel), List.mem_of_getElem? (i := 1300) (by decide +kernel), List.mem_of_getElem? (i := 1301) (by decide +kernel)⟩
theorem lw_p65 : lw_okq (⟨"EachBookOnceModel", "rowsFrom", "(LEachBookOnceModel;IIII)V"⟩, 35) := ⟨⟨by decide +kernel, by decide +kernel⟩, List.mem_of_getElem? (i := 839) (by decide +kernel), List.mem_of_getElem? (i := 1314) (by decide +kernel), List.mem_of_getElem? (i := 1315) (by decide +kernel)⟩
theorem lw_p66 : lw_okq (⟨"EachBookOnceModel", "lostBy", "(II)I"⟩, 35) := ⟨⟨by decide +kernel, by decide +kernel⟩, List.mem_of_getElem? (i := 839) (by decide +kernel), List.mem_of_getElem? (i := 1337) (by decide +kernel), List.mem_of_getElem? (i := 1338) (by decide +kernel)⟩
theorem lw_p67 : lw_okq (⟨"EachBookOnceModel", "noTold", "(II)I"⟩, 35) := ⟨⟨by decide +kernel, by decide +kernel⟩, List.mem_of_getElem? (i := 839) (by decide +kernel), List.mem_of_getElem? (i := 1352) (by decide +kernel), List.mem_of_getElem? (i := 1353) (by decide +kernel)⟩
theorem lw_p68 : lw_okq (⟨"EachBookOnceModel", "wrongAt", "(II)I"⟩, 35) := ⟨⟨by decide +kernel, by decide +kernel⟩, List.mem_of_getElem? (i := 839) (by decide +kernel), List.mem_of_getElem? (i := 1357) (by decide +kernel), List.mem_of_getElem? (i := 1358) (by decide +kernel)⟩
theorem lw_p69 : lw_okq (⟨"EachBookOnceModel", "draw", "(I)I"⟩, 35) := ⟨⟨by decide +kernel, by decide +kernel⟩, List.mem_of_getElem? (i := 839) (by decide +kernel), List.mem_of_getElem? (i := 1370) (by decide +kernel), List.mem_of_getElem? (i := 1371) (by decide +kernel)⟩
def lw_privs_5 : List (MethodName × Nat) := [(⟨"EachBookOnceModel", "findWho", "(II)I"⟩, 35), (⟨"EachBookOnceModel", "rowsFrom", "(LEachBookOnceModel;IIII)V"⟩, 35), (⟨"EachBookOnceModel", "lostBy", "(II)I"⟩, 35), (⟨"EachBookOnceModel", "noTold", "(II)I"⟩, 35), (⟨"EachBookOnceModel", "wrongAt", "(II)I"⟩, 35), (⟨"EachBookOnceModel", "draw", "(I)I"⟩, 35)]
theorem lw_r5 : ∀ q ∈ lw_privs_5, lw_okq q := List.forall_mem_cons.mpr ⟨lw_p64, List.forall_mem_cons.mpr ⟨lw_p65, List.forall_mem_cons.mpr ⟨lw_p66, List.forall_mem_cons.mpr ⟨lw_p67, List.forall_mem_cons.mpr ⟨lw_p68, List.forall_mem_cons.mpr ⟨lw_p69, fun _ h => absurd h List.not_mem_nil⟩⟩⟩⟩⟩⟩
def lw_privs : List (MethodName × Nat) := lw_privs_1 ++ (lw_privs_2 ++ (lw_privs_3 ++ (lw_privs_4 ++ (lw_privs_5))))
def lw_tbl : List Cond := k2_sels lw_privs ++ tables_1
theorem lw_privs_ok : ∀ q ∈ lw_privs, lw_okq q := by
  show ∀ q ∈ lw_privs_1 ++ (lw_privs_2 ++ (lw_privs_3 ++ (lw_privs_4 ++ (lw_privs_5)))), lw_okq q
  exact List.forall_mem_append.mpr ⟨lw_r1, List.forall_mem_append.mpr ⟨lw_r2, List.forall_mem_append.mpr ⟨lw_r3, List.forall_mem_append.mpr ⟨lw_r4, lw_r5⟩⟩⟩⟩
-- ===== end of PART A; then your names; then what follows =====
end
section
def RX0 : String := "EachBookOnce$Plans"
def TX0 : u_T := fun k => match k with
  | 0 => ("EachBookOnce$Plans", "trial", "LEachBookOnce$Town;", true)
  | 1 => ("EachBookOnce$Plans", "second", "LEachBookOnce$Town;", true)
  | 2 => ("EachBookOnce$Plans", "lastValue", "I", false)
  | _ => ("EachBookOnce$Plans", "bestSum", "I", false)
def tyX0 : Nat → FieldType := fun k => match k with
  | 0 => .object "EachBookOnce$Town"
  | 1 => .object "EachBookOnce$Town"
  | 2 => .int
  | _ => .int
abbrev wsX00 : List Cond := u_ws RX0 TX0 4
theorem nmX0 : ∀ a, a < 4 → ∀ b, b < 4 → a ≠ b → (TX0 a).2.1 ≠ (TX0 b).2.1 := by decide +kernel
theorem tyX0_ok : ∀ k, k < 4 → parseFieldDescriptor (TX0 k).2.2.1 = some (tyX0 k) := by decide +kernel
abbrev cX0_init : ByteArray := prog_2_method_1_code
def yX0_init : MethodName := ⟨RX0, "<init>", "()V"⟩
abbrev cX0_trialOf : ByteArray := prog_2_method_2_code
def yX0_trialOf : MethodName := ⟨RX0, "trialOf", "(LEachBookOnce$Town;)LEachBookOnce$Town;"⟩
abbrev cX0_sumOfRun : ByteArray := prog_2_method_3_code
def yX0_sumOfRun : MethodName := ⟨RX0, "sumOfRun", "(LEachBookOnce$Town;III)I"⟩
abbrev cX0_sumOfRest : ByteArray := prog_2_method_4_code
def yX0_sumOfRest : MethodName := ⟨RX0, "sumOfRest", "(LEachBookOnce$Town;I)I"⟩
abbrev cX0_bestWho : ByteArray := prog_2_method_5_code
def yX0_bestWho : MethodName := ⟨RX0, "bestWho", "(LEachBookOnce$Town;II)I"⟩
abbrev cX0_findKeeping : ByteArray := prog_2_method_6_code
def yX0_findKeeping : MethodName := ⟨RX0, "findKeeping", "(LEachBookOnce$Town;II)Z"⟩
abbrev cX0_worthByRising : ByteArray := prog_2_method_7_code
def yX0_worthByRising : MethodName := ⟨RX0, "worthByRising", "(LEachBookOnce$Town;I)I"⟩
def RX1 : String := "EachBookOnce$Rules"
def TX1 : u_T := fun k => match k with
  | _ => ("", "", "", false)
def tyX1 : Nat → FieldType := fun k => match k with
  | _ => .int
abbrev wsX10 : List Cond := u_ws RX1 TX1 0
theorem nmX1 : ∀ a, a < 0 → ∀ b, b < 0 → a ≠ b → (TX1 a).2.1 ≠ (TX1 b).2.1 := by decide +kernel
theorem tyX1_ok : ∀ k, k < 0 → parseFieldDescriptor (TX1 k).2.2.1 = some (tyX1 k) := by decide +kernel
abbrev cX1_isUnder : ByteArray := prog_3_method_2_code
def yX1_isUnder : MethodName := ⟨RX1, "isUnder", "(II)Z"⟩
abbrev cX1_act : ByteArray := prog_3_method_3_code
def yX1_act : MethodName := ⟨RX1, "act", "(LEachBookOnce$Town;II)I"⟩
abbrev cX1_readDearest : ByteArray := prog_3_method_4_code
def yX1_readDearest : MethodName := ⟨RX1, "readDearest", "(LEachBookOnce$Town;IZ)I"⟩
abbrev cX1_tellChain : ByteArray := prog_3_method_5_code
def yX1_tellChain : MethodName := ⟨RX1, "tellChain", "(LEachBookOnce$Town;)V"⟩
def RX2 : String := "EachBookOnce$Shelves"
def TX2 : u_T := fun k => match k with
  | 0 => ("EachBookOnce$Shelves", "holding", "[I", true)
  | 1 => ("EachBookOnce$Shelves", "size", "[I", true)
  | 2 => ("EachBookOnce$Shelves", "amount", "[I", true)
  | _ => ("EachBookOnce$Shelves", "elements", "[J", true)
def tyX2 : Nat → FieldType := fun k => match k with
  | 0 => .array .int
  | 1 => .array .int
  | 2 => .array .int
  | _ => .array .long
abbrev wsX20 : List Cond := u_ws RX2 TX2 4
theorem nmX2 : ∀ a, a < 4 → ∀ b, b < 4 → a ≠ b → (TX2 a).2.1 ≠ (TX2 b).2.1 := by decide +kernel
theorem tyX2_ok : ∀ k, k < 4 → parseFieldDescriptor (TX2 k).2.2.1 = some (tyX2 k) := by decide +kernel
abbrev cX2_init : ByteArray := prog_4_method_1_code
def yX2_init : MethodName := ⟨RX2, "<init>", "()V"⟩
abbrev cX2_hasRow : ByteArray := prog_4_method_2_code
def yX2_hasRow : MethodName := ⟨RX2, "hasRow", "(I)Z"⟩
abbrev cX2_hasRule : ByteArray := prog_4_method_3_code
def yX2_hasRule : MethodName := ⟨RX2, "hasRule", "(I)Z"⟩
abbrev cX2_kindIn : ByteArray := prog_4_method_4_code
def yX2_kindIn : MethodName := ⟨RX2, "kindIn", "(I)I"⟩
abbrev cX2_countHolding : ByteArray := prog_4_method_5_code
def yX2_countHolding : MethodName := ⟨RX2, "countHolding", "()I"⟩
abbrev cX2_putRule : ByteArray := prog_4_method_6_code
def yX2_putRule : MethodName := ⟨RX2, "putRule", "(III)V"⟩
abbrev cX2_putRow : ByteArray := prog_4_method_7_code
def yX2_putRow : MethodName := ⟨RX2, "putRow", "(III)V"⟩
abbrev cX2_at : ByteArray := prog_4_method_8_code
def yX2_at : MethodName := ⟨RX2, "at", "(II)J"⟩
abbrev cX2_put : ByteArray := prog_4_method_9_code
def yX2_put : MethodName := ⟨RX2, "put", "(IIJ)V"⟩
abbrev cX2_move : ByteArray := prog_4_method_10_code
def yX2_move : MethodName := ⟨RX2, "move", "(IIIII)V"⟩
abbrev cX2_lowestBits : ByteArray := prog_4_method_11_code
def yX2_lowestBits : MethodName := ⟨RX2, "lowestBits", "(IJ)J"⟩
def RX3 : String := "EachBookOnce$Tape"
def TX3 : u_T := fun k => match k with
  | 0 => ("EachBookOnce$Tape", "bytes", "[B", true)
  | 1 => ("EachBookOnce$Tape", "size", "I", false)
  | 2 => ("EachBookOnce$Tape", "start", "I", false)
  | 3 => ("EachBookOnce$Tape", "end", "I", false)
  | 4 => ("EachBookOnce$Tape", "token", "I", false)
  | 5 => ("EachBookOnce$Tape", "fault", "I", false)
  | _ => ("EachBookOnce$Tape", "draft", "LEachBookOnce$Town;", true)
def tyX3 : Nat → FieldType := fun k => match k with
  | 0 => .array .byte
  | 1 => .int
  | 2 => .int
  | 3 => .int
  | 4 => .int
  | 5 => .int
  | _ => .object "EachBookOnce$Town"
abbrev wsX30 : List Cond := u_ws RX3 TX3 7
theorem nmX3 : ∀ a, a < 7 → ∀ b, b < 7 → a ≠ b → (TX3 a).2.1 ≠ (TX3 b).2.1 := by decide +kernel
theorem tyX3_ok : ∀ k, k < 7 → parseFieldDescriptor (TX3 k).2.2.1 = some (tyX3 k) := by decide +kernel
abbrev cX3_init : ByteArray := prog_5_method_1_code
def yX3_init : MethodName := ⟨RX3, "<init>", "()V"⟩
abbrev cX3_append : ByteArray := prog_5_method_2_code
def yX3_append : MethodName := ⟨RX3, "append", "(B)V"⟩
abbrev cX3_readFrom : ByteArray := prog_5_method_3_code
def yX3_readFrom : MethodName := ⟨RX3, "readFrom", "(LEachBookOnce$Town;)I"⟩
abbrev cX3_readStatement : ByteArray := prog_5_method_4_code
def yX3_readStatement : MethodName := ⟨RX3, "readStatement", "()V"⟩
abbrev cX3_readBook : ByteArray := prog_5_method_5_code
def yX3_readBook : MethodName := ⟨RX3, "readBook", "()V"⟩
abbrev cX3_readNeed : ByteArray := prog_5_method_6_code
def yX3_readNeed : MethodName := ⟨RX3, "readNeed", "()V"⟩
abbrev cX3_readOne : ByteArray := prog_5_method_7_code
def yX3_readOne : MethodName := ⟨RX3, "readOne", "()V"⟩
abbrev cX3_readKnows : ByteArray := prog_5_method_8_code
def yX3_readKnows : MethodName := ⟨RX3, "readKnows", "()V"⟩
abbrev cX3_readWhite : ByteArray := prog_5_method_9_code
def yX3_readWhite : MethodName := ⟨RX3, "readWhite", "()V"⟩
abbrev cX3_passes : ByteArray := prog_5_method_10_code
def yX3_passes : MethodName := ⟨RX3, "passes", "(Ljava/lang/String;)Z"⟩
abbrev cX3_takeNumber : ByteArray := prog_5_method_11_code
def yX3_takeNumber : MethodName := ⟨RX3, "takeNumber", "(II)I"⟩
abbrev cX3_numberThere : ByteArray := prog_5_method_12_code
def yX3_numberThere : MethodName := ⟨RX3, "numberThere", "()I"⟩
abbrev cX3_isWord : ByteArray := prog_5_method_13_code
def yX3_isWord : MethodName := ⟨RX3, "isWord", "(Ljava/lang/String;)Z"⟩
abbrev cX3_fail : ByteArray := prog_5_method_14_code
def yX3_fail : MethodName := ⟨RX3, "fail", "()V"⟩
abbrev cX3_step : ByteArray := prog_5_method_15_code
def yX3_step : MethodName := ⟨RX3, "step", "()V"⟩
abbrev cX3_sortAt : ByteArray := prog_5_method_16_code
def yX3_sortAt : MethodName := ⟨RX3, "sortAt", "(I)I"⟩
def RX4 : String := "EachBookOnce$Town"
def TX4 : u_T := fun k => match k with
  | 0 => ("EachBookOnce$Town", "books", "I", false)
  | 1 => ("EachBookOnce$Town", "people", "I", false)
  | 2 => ("EachBookOnce$Town", "white", "I", false)
  | 3 => ("EachBookOnce$Town", "gone", "I", false)
  | 4 => ("EachBookOnce$Town", "luck", "I", false)
  | 5 => ("EachBookOnce$Town", "worth", "[I", true)
  | 6 => ("EachBookOnce$Town", "needed", "[I", true)
  | 7 => ("EachBookOnce$Town", "good", "[I", true)
  | 8 => ("EachBookOnce$Town", "age", "[I", true)
  | 9 => ("EachBookOnce$Town", "reading", "[I", true)
  | 10 => ("EachBookOnce$Town", "memory", "[I", true)
  | 11 => ("EachBookOnce$Town", "telling", "[I", true)
  | _ => ("EachBookOnce$Town", "share", "[I", true)
def tyX4 : Nat → FieldType := fun k => match k with
  | 0 => .int
  | 1 => .int
  | 2 => .int
  | 3 => .int
  | 4 => .int
  | 5 => .array .int
  | 6 => .array .int
  | 7 => .array .int
  | 8 => .array .int
  | 9 => .array .int
  | 10 => .array .int
  | 11 => .array .int
  | _ => .array .int
abbrev wsX40 : List Cond := u_ws RX4 TX4 13
theorem nmX4 : ∀ a, a < 13 → ∀ b, b < 13 → a ≠ b → (TX4 a).2.1 ≠ (TX4 b).2.1 := by decide +kernel
theorem tyX4_ok : ∀ k, k < 13 → parseFieldDescriptor (TX4 k).2.2.1 = some (tyX4 k) := by decide +kernel
abbrev cX4_init : ByteArray := prog_6_method_1_code
def yX4_init : MethodName := ⟨RX4, "<init>", "()V"⟩
abbrev cX4_become : ByteArray := prog_6_method_2_code
def yX4_become : MethodName := ⟨RX4, "become", "(LEachBookOnce$Town;)V"⟩
abbrev cX4_isBook : ByteArray := prog_6_method_3_code
def yX4_isBook : MethodName := ⟨RX4, "isBook", "(I)Z"⟩
abbrev cX4_isOne : ByteArray := prog_6_method_4_code
def yX4_isOne : MethodName := ⟨RX4, "isOne", "(I)Z"⟩
abbrev cX4_setThere : ByteArray := prog_6_method_5_code
def yX4_setThere : MethodName := ⟨RX4, "setThere", "()I"⟩
abbrev cX4_addBook : ByteArray := prog_6_method_6_code
def yX4_addBook : MethodName := ⟨RX4, "addBook", "(II)I"⟩
abbrev cX4_addOne : ByteArray := prog_6_method_7_code
def yX4_addOne : MethodName := ⟨RX4, "addOne", "(IIII)I"⟩
abbrev cX4_knows : ByteArray := prog_6_method_8_code
def yX4_knows : MethodName := ⟨RX4, "knows", "(II)I"⟩
abbrev cX4_learn : ByteArray := prog_6_method_9_code
def yX4_learn : MethodName := ⟨RX4, "learn", "(III)V"⟩
abbrev cX4_mostKnown : ByteArray := prog_6_method_10_code
def yX4_mostKnown : MethodName := ⟨RX4, "mostKnown", "(II)I"⟩
abbrev cX4_worthAmong : ByteArray := prog_6_method_11_code
def yX4_worthAmong : MethodName := ⟨RX4, "worthAmong", "(I)I"⟩
abbrev cX4_worthNow : ByteArray := prog_6_method_12_code
def yX4_worthNow : MethodName := ⟨RX4, "worthNow", "()I"⟩
abbrev cX4_booksKnown : ByteArray := prog_6_method_13_code
def yX4_booksKnown : MethodName := ⟨RX4, "booksKnown", "(II)I"⟩
abbrev cX4_groundOf : ByteArray := prog_6_method_14_code
def yX4_groundOf : MethodName := ⟨RX4, "groundOf", "(II)I"⟩
abbrev cX4_grasped : ByteArray := prog_6_method_15_code
def yX4_grasped : MethodName := ⟨RX4, "grasped", "(II)I"⟩
abbrev cX4_wouldKnow : ByteArray := prog_6_method_16_code
def yX4_wouldKnow : MethodName := ⟨RX4, "wouldKnow", "(II)I"⟩
abbrev cX4_readBy : ByteArray := prog_6_method_17_code
def yX4_readBy : MethodName := ⟨RX4, "readBy", "(II)V"⟩
abbrev cX4_hearFrom : ByteArray := prog_6_method_18_code
def yX4_hearFrom : MethodName := ⟨RX4, "hearFrom", "(III)I"⟩
abbrev cX4_writeBy : ByteArray := prog_6_method_19_code
def yX4_writeBy : MethodName := ⟨RX4, "writeBy", "(II)I"⟩
abbrev cX4_afterTelling : ByteArray := prog_6_method_20_code
def yX4_afterTelling : MethodName := ⟨RX4, "afterTelling", "(II)I"⟩
abbrev cX4_gainByTelling : ByteArray := prog_6_method_21_code
def yX4_gainByTelling : MethodName := ⟨RX4, "gainByTelling", "(III)I"⟩
abbrev cX4_tellTo : ByteArray := prog_6_method_22_code
def yX4_tellTo : MethodName := ⟨RX4, "tellTo", "(III)V"⟩
abbrev cX4_gainByReading : ByteArray := prog_6_method_23_code
def yX4_gainByReading : MethodName := ⟨RX4, "gainByReading", "(I)I"⟩
abbrev cX4_bestReader : ByteArray := prog_6_method_24_code
def yX4_bestReader : MethodName := ⟨RX4, "bestReader", "(I)I"⟩
abbrev cX4_dearestUnread : ByteArray := prog_6_method_25_code
def yX4_dearestUnread : MethodName := ⟨RX4, "dearestUnread", "()I"⟩
abbrev cX4_unreadAt : ByteArray := prog_6_method_26_code
def yX4_unreadAt : MethodName := ⟨RX4, "unreadAt", "(I)I"⟩
abbrev cX4_youngestBut : ByteArray := prog_6_method_27_code
def yX4_youngestBut : MethodName := ⟨RX4, "youngestBut", "(I)I"⟩
abbrev cX4_allNeededBy : ByteArray := prog_6_method_28_code
def yX4_allNeededBy : MethodName := ⟨RX4, "allNeededBy", "(I)I"⟩
abbrev cX4_allThatNeed : ByteArray := prog_6_method_29_code
def yX4_allThatNeed : MethodName := ⟨RX4, "allThatNeed", "(I)I"⟩
abbrev cX4_endYear : ByteArray := prog_6_method_30_code
def yX4_endYear : MethodName := ⟨RX4, "endYear", "()I"⟩
abbrev cX4_forget : ByteArray := prog_6_method_31_code
def yX4_forget : MethodName := ⟨RX4, "forget", "(I)V"⟩
abbrev cX4_drawDeaths : ByteArray := prog_6_method_32_code
def yX4_drawDeaths : MethodName := ⟨RX4, "drawDeaths", "()V"⟩
abbrev cX4_drawBelow20 : ByteArray := prog_6_method_33_code
def yX4_drawBelow20 : MethodName := ⟨RX4, "drawBelow20", "()I"⟩
def RX5 : String := "EachBookOnce"
def TX5 : u_T := fun k => match k with
  | 0 => ("EachBookOnce", "town", "LEachBookOnce$Town;", true)
  | 1 => ("EachBookOnce", "kept", "LEachBookOnce$Town;", true)
  | 2 => ("EachBookOnce", "plans", "LEachBookOnce$Plans;", true)
  | 3 => ("EachBookOnce", "shelves", "LEachBookOnce$Shelves;", true)
  | 4 => ("EachBookOnce", "tape", "LEachBookOnce$Tape;", true)
  | 5 => ("EachBookOnce", "refusals", "[I", true)
  | 6 => ("EachBookOnce", "isKept", "Z", false)
  | 7 => ("EachBookOnce", "yearsEnded", "I", false)
  | _ => ("EachBookOnce", "trueValues", "I", false)
def tyX5 : Nat → FieldType := fun k => match k with
  | 0 => .object "EachBookOnce$Town"
  | 1 => .object "EachBookOnce$Town"
  | 2 => .object "EachBookOnce$Plans"
  | 3 => .object "EachBookOnce$Shelves"
  | 4 => .object "EachBookOnce$Tape"
  | 5 => .array .int
  | 6 => .boolean
  | 7 => .int
  | _ => .int
abbrev wsX50 : List Cond := u_ws RX5 TX5 9
theorem nmX5 : ∀ a, a < 9 → ∀ b, b < 9 → a ≠ b → (TX5 a).2.1 ≠ (TX5 b).2.1 := by decide +kernel
theorem tyX5_ok : ∀ k, k < 9 → parseFieldDescriptor (TX5 k).2.2.1 = some (tyX5 k) := by decide +kernel
abbrev cX5_init : ByteArray := prog_1_method_1_code
def yX5_init : MethodName := ⟨RX5, "<init>", "()V"⟩
abbrev cX5_row : ByteArray := prog_1_method_2_code
def yX5_row : MethodName := ⟨RX5, "row", "(III)I"⟩
abbrev cX5_set : ByteArray := prog_1_method_3_code
def yX5_set : MethodName := ⟨RX5, "set", "(IIJ)I"⟩
abbrev cX5_copy : ByteArray := prog_1_method_4_code
def yX5_copy : MethodName := ⟨RX5, "copy", "(IIIII)I"⟩
abbrev cX5_element : ByteArray := prog_1_method_5_code
def yX5_element : MethodName := ⟨RX5, "element", "(II)J"⟩
abbrev cX5_holds : ByteArray := prog_1_method_6_code
def yX5_holds : MethodName := ⟨RX5, "holds", "(I)I"⟩
abbrev cX5_rule : ByteArray := prog_1_method_7_code
def yX5_rule : MethodName := ⟨RX5, "rule", "(III)I"⟩
abbrev cX5_says : ByteArray := prog_1_method_8_code
def yX5_says : MethodName := ⟨RX5, "says", "(II)I"⟩
abbrev cX5_book : ByteArray := prog_1_method_9_code
def yX5_book : MethodName := ⟨RX5, "book", "(II)I"⟩
abbrev cX5_one : ByteArray := prog_1_method_10_code
def yX5_one : MethodName := ⟨RX5, "one", "(IIII)I"⟩
abbrev cX5_ones : ByteArray := prog_1_method_11_code
def yX5_ones : MethodName := ⟨RX5, "ones", "(II)I"⟩
abbrev cX5_feed : ByteArray := prog_1_method_12_code
def yX5_feed : MethodName := ⟨RX5, "feed", "(II)I"⟩
abbrev cX5_wipe : ByteArray := prog_1_method_13_code
def yX5_wipe : MethodName := ⟨RX5, "wipe", "()I"⟩
abbrev cX5_town : ByteArray := prog_1_method_14_code
def yX5_town : MethodName := ⟨RX5, "town", "()I"⟩
abbrev cX5_bookOf : ByteArray := prog_1_method_15_code
def yX5_bookOf : MethodName := ⟨RX5, "bookOf", "(II)I"⟩
abbrev cX5_oneOf : ByteArray := prog_1_method_16_code
def yX5_oneOf : MethodName := ⟨RX5, "oneOf", "(II)I"⟩
abbrev cX5_known : ByteArray := prog_1_method_17_code
def yX5_known : MethodName := ⟨RX5, "known", "(II)I"⟩
abbrev cX5_alter : ByteArray := prog_1_method_18_code
def yX5_alter : MethodName := ⟨RX5, "alter", "(III)I"⟩
abbrev cX5_ground : ByteArray := prog_1_method_19_code
def yX5_ground : MethodName := ⟨RX5, "ground", "(II)I"⟩
abbrev cX5_would : ByteArray := prog_1_method_20_code
def yX5_would : MethodName := ⟨RX5, "would", "(II)I"⟩
abbrev cX5_read : ByteArray := prog_1_method_21_code
def yX5_read : MethodName := ⟨RX5, "read", "(II)I"⟩
abbrev cX5_aloud : ByteArray := prog_1_method_22_code
def yX5_aloud : MethodName := ⟨RX5, "aloud", "(III)I"⟩
abbrev cX5_tell : ByteArray := prog_1_method_23_code
def yX5_tell : MethodName := ⟨RX5, "tell", "(III)I"⟩
abbrev cX5_write : ByteArray := prog_1_method_24_code
def yX5_write : MethodName := ⟨RX5, "write", "(II)I"⟩
abbrev cX5_value : ByteArray := prog_1_method_25_code
def yX5_value : MethodName := ⟨RX5, "value", "()I"⟩
abbrev cX5_reader : ByteArray := prog_1_method_26_code
def yX5_reader : MethodName := ⟨RX5, "reader", "(I)I"⟩
abbrev cX5_run : ByteArray := prog_1_method_27_code
def yX5_run : MethodName := ⟨RX5, "run", "(III)I"⟩
abbrev cX5_head : ByteArray := prog_1_method_28_code
def yX5_head : MethodName := ⟨RX5, "head", "(I)I"⟩
abbrev cX5_who : ByteArray := prog_1_method_29_code
def yX5_who : MethodName := ⟨RX5, "who", "(II)I"⟩
abbrev cX5_order : ByteArray := prog_1_method_30_code
def yX5_order : MethodName := ⟨RX5, "order", "(II)I"⟩
abbrev cX5_keeping : ByteArray := prog_1_method_31_code
def yX5_keeping : MethodName := ⟨RX5, "keeping", "(II)I"⟩
abbrev cX5_left : ByteArray := prog_1_method_32_code
def yX5_left : MethodName := ⟨RX5, "left", "(III)I"⟩
abbrev cX5_longest : ByteArray := prog_1_method_33_code
def yX5_longest : MethodName := ⟨RX5, "longest", "(III)I"⟩
abbrev cX5_hangs : ByteArray := prog_1_method_34_code
def yX5_hangs : MethodName := ⟨RX5, "hangs", "()I"⟩
abbrev cX5_lost : ByteArray := prog_1_method_35_code
def yX5_lost : MethodName := ⟨RX5, "lost", "(I)I"⟩
abbrev cX5_bear : ByteArray := prog_1_method_36_code
def yX5_bear : MethodName := ⟨RX5, "bear", "(I)I"⟩
abbrev cX5_youngest : ByteArray := prog_1_method_37_code
def yX5_youngest : MethodName := ⟨RX5, "youngest", "(I)I"⟩
abbrev cX5_teach : ByteArray := prog_1_method_38_code
def yX5_teach : MethodName := ⟨RX5, "teach", "(II)I"⟩
abbrev cX5_needs : ByteArray := prog_1_method_39_code
def yX5_needs : MethodName := ⟨RX5, "needs", "(IZ)I"⟩
abbrev cX5_next : ByteArray := prog_1_method_40_code
def yX5_next : MethodName := ⟨RX5, "next", "()I"⟩
abbrev cX5_two : ByteArray := prog_1_method_41_code
def yX5_two : MethodName := ⟨RX5, "two", "(II)I"⟩
abbrev cX5_gains : ByteArray := prog_1_method_42_code
def yX5_gains : MethodName := ⟨RX5, "gains", "(II)I"⟩
abbrev cX5_judge : ByteArray := prog_1_method_43_code
def yX5_judge : MethodName := ⟨RX5, "judge", "(II)I"⟩
abbrev cX5_told : ByteArray := prog_1_method_44_code
def yX5_told : MethodName := ⟨RX5, "told", "(II)I"⟩
abbrev cX5_years : ByteArray := prog_1_method_45_code
def yX5_years : MethodName := ⟨RX5, "years", "(II)I"⟩
abbrev cX5_ends : ByteArray := prog_1_method_46_code
def yX5_ends : MethodName := ⟨RX5, "ends", "()I"⟩
abbrev cX5_seed : ByteArray := prog_1_method_47_code
def yX5_seed : MethodName := ⟨RX5, "seed", "(I)I"⟩
abbrev cX5_image : ByteArray := prog_1_method_48_code
def yX5_image : MethodName := ⟨RX5, "image", "()I"⟩
abbrev cX5_back : ByteArray := prog_1_method_49_code
def yX5_back : MethodName := ⟨RX5, "back", "()I"⟩
abbrev cX5_status : ByteArray := prog_1_method_50_code
def yX5_status : MethodName := ⟨RX5, "status", "(I)I"⟩
abbrev cX5_refuse : ByteArray := prog_1_method_51_code
def yX5_refuse : MethodName := ⟨RX5, "refuse", "(I)I"⟩
abbrev cX5_within : ByteArray := prog_1_method_52_code
def yX5_within : MethodName := ⟨RX5, "within", "(JJJ)Z"⟩
abbrev cX5_isShelf : ByteArray := prog_1_method_53_code
def yX5_isShelf : MethodName := ⟨RX5, "isShelf", "(I)Z"⟩
abbrev cX5_has : ByteArray := prog_1_method_54_code
def yX5_has : MethodName := ⟨RX5, "has", "(II)Z"⟩
abbrev cX5_setOfAll : ByteArray := prog_1_method_55_code
def yX5_setOfAll : MethodName := ⟨RX5, "setOfAll", "(I)I"⟩
abbrev cX5_isSetOf : ByteArray := prog_1_method_56_code
def yX5_isSetOf : MethodName := ⟨RX5, "isSetOf", "(II)Z"⟩
abbrev cX5_canBeOne : ByteArray := prog_1_method_57_code
def yX5_canBeOne : MethodName := ⟨RX5, "canBeOne", "(JJJJ)Z"⟩
abbrev cX5_canBeTold : ByteArray := prog_1_method_58_code
def yX5_canBeTold : MethodName := ⟨RX5, "canBeTold", "(II)Z"⟩
abbrev cX5_isPair : ByteArray := prog_1_method_59_code
def yX5_isPair : MethodName := ⟨RX5, "isPair", "(II)Z"⟩
abbrev cX5_readFit : ByteArray := prog_1_method_60_code
def yX5_readFit : MethodName := ⟨RX5, "readFit", "(II)I"⟩
abbrev cX5_rowFit : ByteArray := prog_1_method_61_code
def yX5_rowFit : MethodName := ⟨RX5, "rowFit", "(I)I"⟩
abbrev cX5_ruleFit : ByteArray := prog_1_method_62_code
def yX5_ruleFit : MethodName := ⟨RX5, "ruleFit", "(I)I"⟩
abbrev cX5_copyFit : ByteArray := prog_1_method_63_code
def yX5_copyFit : MethodName := ⟨RX5, "copyFit", "(II)I"⟩
abbrev cX5_hasSpan : ByteArray := prog_1_method_64_code
def yX5_hasSpan : MethodName := ⟨RX5, "hasSpan", "(III)Z"⟩
abbrev cX5_toldFit : ByteArray := prog_1_method_65_code
def yX5_toldFit : MethodName := ⟨RX5, "toldFit", "(II)I"⟩
abbrev cX5_firstWrong : ByteArray := prog_1_method_66_code
def yX5_firstWrong : MethodName := ⟨RX5, "firstWrong", "(II)I"⟩
def RX6 : String := "EachBookOnceModel"
def TX6 : u_T := fun k => match k with
  | 0 => ("EachBookOnceModel", "shelf", "[I", true)
  | 1 => ("EachBookOnceModel", "rowSort", "[I", true)
  | 2 => ("EachBookOnceModel", "rowSize", "[I", true)
  | 3 => ("EachBookOnceModel", "rows", "[[J", true)
  | 4 => ("EachBookOnceModel", "moved", "[J", true)
  | 5 => ("EachBookOnceModel", "ruleKind", "[I", true)
  | 6 => ("EachBookOnceModel", "ruleBy", "[I", true)
  | 7 => ("EachBookOnceModel", "tape", "[I", true)
  | 8 => ("EachBookOnceModel", "tapeSize", "I", false)
  | 9 => ("EachBookOnceModel", "refused", "[I", true)
  | 10 => ("EachBookOnceModel", "books", "I", false)
  | 11 => ("EachBookOnceModel", "book", "[[I", true)
  | 12 => ("EachBookOnceModel", "people", "I", false)
  | 13 => ("EachBookOnceModel", "one", "[[I", true)
  | 14 => ("EachBookOnceModel", "known", "[[I", true)
  | 15 => ("EachBookOnceModel", "ended", "I", false)
  | 16 => ("EachBookOnceModel", "taken", "I", false)
  | 17 => ("EachBookOnceModel", "seed", "I", false)
  | 18 => ("EachBookOnceModel", "kept", "LEachBookOnceModel;", false)
  | 19 => ("EachBookOnceModel", "tried", "LEachBookOnceModel;", false)
  | 20 => ("EachBookOnceModel", "at", "I", false)
  | 21 => ("EachBookOnceModel", "token", "I", false)
  | 22 => ("EachBookOnceModel", "from", "I", false)
  | 23 => ("EachBookOnceModel", "figures", "J", false)
  | 24 => ("EachBookOnceModel", "fault", "I", false)
  | 25 => ("EachBookOnceModel", "three", "[I", true)
  | 26 => ("EachBookOnceModel", "statements", "I", false)
  | 27 => ("EachBookOnceModel", "lastValue", "I", false)
  | 28 => ("EachBookOnceModel", "whoSum", "I", false)
  | 29 => ("EachBookOnceModel", "later", "LEachBookOnceModel;", false)
  | 30 => ("EachBookOnceModel", "unread", "[I", true)
  | 31 => ("EachBookOnceModel", "tryRow", "[I", true)
  | 32 => ("EachBookOnceModel", "bestRow", "[I", true)
  | 33 => ("EachBookOnceModel", "steps", "[LEachBookOnceModel;", true)
  | _ => ("EachBookOnceModel", "orderMost", "I", false)
def tyX6 : Nat → FieldType := fun k => match k with
  | 0 => .array .int
  | 1 => .array .int
  | 2 => .array .int
  | 3 => .array (.array .long)
  | 4 => .array .long
  | 5 => .array .int
  | 6 => .array .int
  | 7 => .array .int
  | 8 => .int
  | 9 => .array .int
  | 10 => .int
  | 11 => .array (.array .int)
  | 12 => .int
  | 13 => .array (.array .int)
  | 14 => .array (.array .int)
  | 15 => .int
  | 16 => .int
  | 17 => .int
  | 18 => .object "EachBookOnceModel"
  | 19 => .object "EachBookOnceModel"
  | 20 => .int
  | 21 => .int
  | 22 => .int
  | 23 => .long
  | 24 => .int
  | 25 => .array .int
  | 26 => .int
  | 27 => .int
  | 28 => .int
  | 29 => .object "EachBookOnceModel"
  | 30 => .array .int
  | 31 => .array .int
  | 32 => .array .int
  | 33 => .array (.object "EachBookOnceModel")
  | _ => .int
abbrev wsX60 : List Cond := u_ws RX6 TX6 35
theorem nmX6 : ∀ a, a < 35 → ∀ b, b < 35 → a ≠ b → (TX6 a).2.1 ≠ (TX6 b).2.1 := by decide +kernel
theorem tyX6_ok : ∀ k, k < 35 → parseFieldDescriptor (TX6 k).2.2.1 = some (tyX6 k) := by decide +kernel
abbrev cX6_init : ByteArray := prog_8_method_1_code
def yX6_init : MethodName := ⟨RX6, "<init>", "()V"⟩
abbrev cX6_refuse : ByteArray := prog_8_method_2_code
def yX6_refuse : MethodName := ⟨RX6, "refuse", "(I)I"⟩
abbrev cX6_in : ByteArray := prog_8_method_3_code
def yX6_in : MethodName := ⟨RX6, "in", "(JJJ)Z"⟩
abbrev cX6_isBook : ByteArray := prog_8_method_4_code
def yX6_isBook : MethodName := ⟨RX6, "isBook", "(J)Z"⟩
abbrev cX6_isOne : ByteArray := prog_8_method_5_code
def yX6_isOne : MethodName := ⟨RX6, "isOne", "(J)Z"⟩
abbrev cX6_isThere : ByteArray := prog_8_method_6_code
def yX6_isThere : MethodName := ⟨RX6, "isThere", "(I)Z"⟩
abbrev cX6_isWhite : ByteArray := prog_8_method_7_code
def yX6_isWhite : MethodName := ⟨RX6, "isWhite", "(I)Z"⟩
abbrev cX6_thereMany : ByteArray := prog_8_method_8_code
def yX6_thereMany : MethodName := ⟨RX6, "thereMany", "()I"⟩
abbrev cX6_whiteMany : ByteArray := prog_8_method_9_code
def yX6_whiteMany : MethodName := ⟨RX6, "whiteMany", "()I"⟩
abbrev cX6_bits : ByteArray := prog_8_method_10_code
def yX6_bits : MethodName := ⟨RX6, "bits", "(I)I"⟩
abbrev cX6_row : ByteArray := prog_8_method_11_code
def yX6_row : MethodName := ⟨RX6, "row", "(III)I"⟩
abbrev cX6_fit : ByteArray := prog_8_method_12_code
def yX6_fit : MethodName := ⟨RX6, "fit", "(IJ)J"⟩
abbrev cX6_noRow : ByteArray := prog_8_method_13_code
def yX6_noRow : MethodName := ⟨RX6, "noRow", "(I)I"⟩
abbrev cX6_noRule : ByteArray := prog_8_method_14_code
def yX6_noRule : MethodName := ⟨RX6, "noRule", "(I)I"⟩
abbrev cX6_set : ByteArray := prog_8_method_15_code
def yX6_set : MethodName := ⟨RX6, "set", "(IIJ)I"⟩
abbrev cX6_copy : ByteArray := prog_8_method_16_code
def yX6_copy : MethodName := ⟨RX6, "copy", "(IIIII)I"⟩
abbrev cX6_element : ByteArray := prog_8_method_17_code
def yX6_element : MethodName := ⟨RX6, "element", "(II)J"⟩
abbrev cX6_holds : ByteArray := prog_8_method_18_code
def yX6_holds : MethodName := ⟨RX6, "holds", "(I)I"⟩
abbrev cX6_rule : ByteArray := prog_8_method_19_code
def yX6_rule : MethodName := ⟨RX6, "rule", "(III)I"⟩
abbrev cX6_isUnder : ByteArray := prog_8_method_20_code
def yX6_isUnder : MethodName := ⟨RX6, "isUnder", "(II)Z"⟩
abbrev cX6_says : ByteArray := prog_8_method_21_code
def yX6_says : MethodName := ⟨RX6, "says", "(II)I"⟩
abbrev cX6_newBook : ByteArray := prog_8_method_22_code
def yX6_newBook : MethodName := ⟨RX6, "newBook", "(I)V"⟩
abbrev cX6_book : ByteArray := prog_8_method_23_code
def yX6_book : MethodName := ⟨RX6, "book", "(II)I"⟩
abbrev cX6_newOne : ByteArray := prog_8_method_24_code
def yX6_newOne : MethodName := ⟨RX6, "newOne", "()V"⟩
abbrev cX6_add : ByteArray := prog_8_method_25_code
def yX6_add : MethodName := ⟨RX6, "add", "(JJJJ)I"⟩
abbrev cX6_one : ByteArray := prog_8_method_26_code
def yX6_one : MethodName := ⟨RX6, "one", "(IIII)I"⟩
abbrev cX6_ones : ByteArray := prog_8_method_27_code
def yX6_ones : MethodName := ⟨RX6, "ones", "(II)I"⟩
abbrev cX6_feed : ByteArray := prog_8_method_28_code
def yX6_feed : MethodName := ⟨RX6, "feed", "(II)I"⟩
abbrev cX6_wipe : ByteArray := prog_8_method_29_code
def yX6_wipe : MethodName := ⟨RX6, "wipe", "()I"⟩
abbrev cX6_isLetter : ByteArray := prog_8_method_30_code
def yX6_isLetter : MethodName := ⟨RX6, "isLetter", "(I)Z"⟩
abbrev cX6_isDigit : ByteArray := prog_8_method_31_code
def yX6_isDigit : MethodName := ⟨RX6, "isDigit", "(I)Z"⟩
abbrev cX6_look : ByteArray := prog_8_method_32_code
def yX6_look : MethodName := ⟨RX6, "look", "()V"⟩
abbrev cX6_wrong : ByteArray := prog_8_method_33_code
def yX6_wrong : MethodName := ⟨RX6, "wrong", "()Z"⟩
abbrev cX6_isWord : ByteArray := prog_8_method_34_code
def yX6_isWord : MethodName := ⟨RX6, "isWord", "(Ljava/lang/String;)Z"⟩
abbrev cX6_number : ByteArray := prog_8_method_35_code
def yX6_number : MethodName := ⟨RX6, "number", "([IIII)Z"⟩
abbrev cX6_tells : ByteArray := prog_8_method_36_code
def yX6_tells : MethodName := ⟨RX6, "tells", "(Ljava/lang/String;[IIII)Z"⟩
abbrev cX6_perhaps : ByteArray := prog_8_method_37_code
def yX6_perhaps : MethodName := ⟨RX6, "perhaps", "(Ljava/lang/String;[IIII)Z"⟩
abbrev cX6_statement : ByteArray := prog_8_method_38_code
def yX6_statement : MethodName := ⟨RX6, "statement", "()Z"⟩
abbrev cX6_readAll : ByteArray := prog_8_method_39_code
def yX6_readAll : MethodName := ⟨RX6, "readAll", "()Z"⟩
abbrev cX6_town : ByteArray := prog_8_method_40_code
def yX6_town : MethodName := ⟨RX6, "town", "()I"⟩
abbrev cX6_bookOf : ByteArray := prog_8_method_41_code
def yX6_bookOf : MethodName := ⟨RX6, "bookOf", "(II)I"⟩
abbrev cX6_oneOf : ByteArray := prog_8_method_42_code
def yX6_oneOf : MethodName := ⟨RX6, "oneOf", "(II)I"⟩
abbrev cX6_known : ByteArray := prog_8_method_43_code
def yX6_known : MethodName := ⟨RX6, "known", "(II)I"⟩
abbrev cX6_alter : ByteArray := prog_8_method_44_code
def yX6_alter : MethodName := ⟨RX6, "alter", "(III)I"⟩
abbrev cX6_needs : ByteArray := prog_8_method_45_code
def yX6_needs : MethodName := ⟨RX6, "needs", "(IZ)I"⟩
abbrev cX6_groundOf : ByteArray := prog_8_method_46_code
def yX6_groundOf : MethodName := ⟨RX6, "groundOf", "(II)I"⟩
abbrev cX6_ground : ByteArray := prog_8_method_47_code
def yX6_ground : MethodName := ⟨RX6, "ground", "(II)I"⟩
abbrev cX6_byGround : ByteArray := prog_8_method_48_code
def yX6_byGround : MethodName := ⟨RX6, "byGround", "(III)I"⟩
abbrev cX6_wouldKnow : ByteArray := prog_8_method_49_code
def yX6_wouldKnow : MethodName := ⟨RX6, "wouldKnow", "(II)I"⟩
abbrev cX6_noReading : ByteArray := prog_8_method_50_code
def yX6_noReading : MethodName := ⟨RX6, "noReading", "(II)I"⟩
abbrev cX6_would : ByteArray := prog_8_method_51_code
def yX6_would : MethodName := ⟨RX6, "would", "(II)I"⟩
abbrev cX6_reads : ByteArray := prog_8_method_52_code
def yX6_reads : MethodName := ⟨RX6, "reads", "(II)V"⟩
abbrev cX6_read : ByteArray := prog_8_method_53_code
def yX6_read : MethodName := ⟨RX6, "read", "(II)I"⟩
abbrev cX6_readsTo : ByteArray := prog_8_method_54_code
def yX6_readsTo : MethodName := ⟨RX6, "readsTo", "(III)I"⟩
abbrev cX6_aloud : ByteArray := prog_8_method_55_code
def yX6_aloud : MethodName := ⟨RX6, "aloud", "(III)I"⟩
abbrev cX6_moreBy : ByteArray := prog_8_method_56_code
def yX6_moreBy : MethodName := ⟨RX6, "moreBy", "(III)I"⟩
abbrev cX6_tell : ByteArray := prog_8_method_57_code
def yX6_tell : MethodName := ⟨RX6, "tell", "(III)I"⟩
abbrev cX6_teach : ByteArray := prog_8_method_58_code
def yX6_teach : MethodName := ⟨RX6, "teach", "(II)I"⟩
abbrev cX6_write : ByteArray := prog_8_method_59_code
def yX6_write : MethodName := ⟨RX6, "write", "(II)I"⟩
abbrev cX6_greatest : ByteArray := prog_8_method_60_code
def yX6_greatest : MethodName := ⟨RX6, "greatest", "(II)I"⟩
abbrev cX6_valueOf : ByteArray := prog_8_method_61_code
def yX6_valueOf : MethodName := ⟨RX6, "valueOf", "(I)I"⟩
abbrev cX6_valueNow : ByteArray := prog_8_method_62_code
def yX6_valueNow : MethodName := ⟨RX6, "valueNow", "()I"⟩
abbrev cX6_value : ByteArray := prog_8_method_63_code
def yX6_value : MethodName := ⟨RX6, "value", "()I"⟩
abbrev cX6_two : ByteArray := prog_8_method_64_code
def yX6_two : MethodName := ⟨RX6, "two", "(II)I"⟩
abbrev cX6_youngestBut : ByteArray := prog_8_method_65_code
def yX6_youngestBut : MethodName := ⟨RX6, "youngestBut", "(I)I"⟩
abbrev cX6_youngest : ByteArray := prog_8_method_66_code
def yX6_youngest : MethodName := ⟨RX6, "youngest", "(I)I"⟩
abbrev cX6_readerOf : ByteArray := prog_8_method_67_code
def yX6_readerOf : MethodName := ⟨RX6, "readerOf", "(I)I"⟩
abbrev cX6_reader : ByteArray := prog_8_method_68_code
def yX6_reader : MethodName := ⟨RX6, "reader", "(I)I"⟩
abbrev cX6_next : ByteArray := prog_8_method_69_code
def yX6_next : MethodName := ⟨RX6, "next", "()I"⟩
abbrev cX6_readMost : ByteArray := prog_8_method_70_code
def yX6_readMost : MethodName := ⟨RX6, "readMost", "(IZ)I"⟩
abbrev cX6_chain : ByteArray := prog_8_method_71_code
def yX6_chain : MethodName := ⟨RX6, "chain", "()V"⟩
abbrev cX6_does : ByteArray := prog_8_method_72_code
def yX6_does : MethodName := ⟨RX6, "does", "(II)I"⟩
abbrev cX6_end : ByteArray := prog_8_method_73_code
def yX6_end : MethodName := ⟨RX6, "end", "()I"⟩
abbrev cX6_ends : ByteArray := prog_8_method_74_code
def yX6_ends : MethodName := ⟨RX6, "ends", "()I"⟩
abbrev cX6_fresh : ByteArray := prog_8_method_75_code
def yX6_fresh : MethodName := ⟨RX6, "fresh", "()LEachBookOnceModel;"⟩
abbrev cX6_goes : ByteArray := prog_8_method_76_code
def yX6_goes : MethodName := ⟨RX6, "goes", "(III)I"⟩
abbrev cX6_sumOf : ByteArray := prog_8_method_77_code
def yX6_sumOf : MethodName := ⟨RX6, "sumOf", "(II)I"⟩
abbrev cX6_run : ByteArray := prog_8_method_78_code
def yX6_run : MethodName := ⟨RX6, "run", "(III)I"⟩
abbrev cX6_gains : ByteArray := prog_8_method_79_code
def yX6_gains : MethodName := ⟨RX6, "gains", "(II)I"⟩
abbrev cX6_head : ByteArray := prog_8_method_80_code
def yX6_head : MethodName := ⟨RX6, "head", "(I)I"⟩
abbrev cX6_findWho : ByteArray := prog_8_method_81_code
def yX6_findWho : MethodName := ⟨RX6, "findWho", "(II)I"⟩
abbrev cX6_who : ByteArray := prog_8_method_82_code
def yX6_who : MethodName := ⟨RX6, "who", "(II)I"⟩
abbrev cX6_keeping : ByteArray := prog_8_method_83_code
def yX6_keeping : MethodName := ⟨RX6, "keeping", "(II)I"⟩
abbrev cX6_rowsFrom : ByteArray := prog_8_method_84_code
def yX6_rowsFrom : MethodName := ⟨RX6, "rowsFrom", "(LEachBookOnceModel;IIII)V"⟩
abbrev cX6_order : ByteArray := prog_8_method_85_code
def yX6_order : MethodName := ⟨RX6, "order", "(II)I"⟩
abbrev cX6_leftOf : ByteArray := prog_8_method_86_code
def yX6_leftOf : MethodName := ⟨RX6, "leftOf", "(III)I"⟩
abbrev cX6_left : ByteArray := prog_8_method_87_code
def yX6_left : MethodName := ⟨RX6, "left", "(III)I"⟩
abbrev cX6_longest : ByteArray := prog_8_method_88_code
def yX6_longest : MethodName := ⟨RX6, "longest", "(III)I"⟩
abbrev cX6_hangs : ByteArray := prog_8_method_89_code
def yX6_hangs : MethodName := ⟨RX6, "hangs", "()I"⟩
abbrev cX6_lostBy : ByteArray := prog_8_method_90_code
def yX6_lostBy : MethodName := ⟨RX6, "lostBy", "(II)I"⟩
abbrev cX6_lost : ByteArray := prog_8_method_91_code
def yX6_lost : MethodName := ⟨RX6, "lost", "(I)I"⟩
abbrev cX6_bear : ByteArray := prog_8_method_92_code
def yX6_bear : MethodName := ⟨RX6, "bear", "(I)I"⟩
abbrev cX6_noTold : ByteArray := prog_8_method_93_code
def yX6_noTold : MethodName := ⟨RX6, "noTold", "(II)I"⟩
abbrev cX6_wrongAt : ByteArray := prog_8_method_94_code
def yX6_wrongAt : MethodName := ⟨RX6, "wrongAt", "(II)I"⟩
abbrev cX6_judge : ByteArray := prog_8_method_95_code
def yX6_judge : MethodName := ⟨RX6, "judge", "(II)I"⟩
abbrev cX6_told : ByteArray := prog_8_method_96_code
def yX6_told : MethodName := ⟨RX6, "told", "(II)I"⟩
abbrev cX6_draw : ByteArray := prog_8_method_97_code
def yX6_draw : MethodName := ⟨RX6, "draw", "(I)I"⟩
abbrev cX6_years : ByteArray := prog_8_method_98_code
def yX6_years : MethodName := ⟨RX6, "years", "(II)I"⟩
abbrev cX6_seed : ByteArray := prog_8_method_99_code
def yX6_seed : MethodName := ⟨RX6, "seed", "(I)I"⟩
abbrev cX6_overAll : ByteArray := prog_8_method_100_code
def yX6_overAll : MethodName := ⟨RX6, "overAll", "([[I[[I)V"⟩
abbrev cX6_takeFrom : ByteArray := prog_8_method_101_code
def yX6_takeFrom : MethodName := ⟨RX6, "takeFrom", "(LEachBookOnceModel;)V"⟩
abbrev cX6_image : ByteArray := prog_8_method_102_code
def yX6_image : MethodName := ⟨RX6, "image", "()I"⟩
abbrev cX6_back : ByteArray := prog_8_method_103_code
def yX6_back : MethodName := ⟨RX6, "back", "()I"⟩
abbrev cX6_status : ByteArray := prog_8_method_104_code
def yX6_status : MethodName := ⟨RX6, "status", "(I)I"⟩
def RJ6 : String := "java/lang/Integer"
def TJ6 : u_T := fun k => match k with
  | _ => ("", "", "", false)
def tyJ6 : Nat → FieldType := fun k => match k with
  | _ => .int
abbrev wsJ60 : List Cond := u_ws RJ6 TJ6 0
theorem nmJ6 : ∀ a, a < 0 → ∀ b, b < 0 → a ≠ b → (TJ6 a).2.1 ≠ (TJ6 b).2.1 := by decide +kernel
theorem tyJ6_ok : ∀ k, k < 0 → parseFieldDescriptor (TJ6 k).2.2.1 = some (tyJ6 k) := by decide +kernel
abbrev cJ6_bitCount_0f7a4 : ByteArray := prog_9_method_49_code
def yJ6_bitCount_0f7a4 : MethodName := ⟨RJ6, "bitCount", "(I)I"⟩
def RJ9 : String := "java/lang/Math"
def TJ9 : u_T := fun k => match k with
  | _ => ("", "", "", false)
def tyJ9 : Nat → FieldType := fun k => match k with
  | _ => .int
abbrev wsJ90 : List Cond := u_ws RJ9 TJ9 0
theorem nmJ9 : ∀ a, a < 0 → ∀ b, b < 0 → a ≠ b → (TJ9 a).2.1 ≠ (TJ9 b).2.1 := by decide +kernel
theorem tyJ9_ok : ∀ k, k < 0 → parseFieldDescriptor (TJ9 k).2.2.1 = some (tyJ9 k) := by decide +kernel
abbrev cJ9_max_7cf53 : ByteArray := prog_10_method_65_code
def yJ9_max_7cf53 : MethodName := ⟨RJ9, "max", "(II)I"⟩
def RJ0 : String := "java/lang/String"
def TJ0 : u_T := fun k => match k with
  | _ => ("", "", "", false)
def tyJ0 : Nat → FieldType := fun k => match k with
  | _ => .int
abbrev wsJ00 : List Cond := u_ws RJ0 TJ0 0
theorem nmJ0 : ∀ a, a < 0 → ∀ b, b < 0 → a ≠ b → (TJ0 a).2.1 ≠ (TJ0 b).2.1 := by decide +kernel
theorem tyJ0_ok : ∀ k, k < 0 → parseFieldDescriptor (TJ0 k).2.2.1 = some (tyJ0 k) := by decide +kernel
abbrev cJ0_length_8abf5 : ByteArray := prog_11_method_54_code
def yJ0_length_8abf5 : MethodName := ⟨RJ0, "length", "()I"⟩
abbrev cJ0_charAt_5068e : ByteArray := prog_11_method_56_code
def yJ0_charAt_5068e : MethodName := ⟨RJ0, "charAt", "(I)C"⟩
abbrev cJ0_coder_7d493 : ByteArray := prog_11_method_152_code
def yJ0_coder_7d493 : MethodName := ⟨RJ0, "coder", "()B"⟩
abbrev cJ0_isLatin1_aae02 : ByteArray := prog_11_method_154_code
def yJ0_isLatin1_aae02 : MethodName := ⟨RJ0, "isLatin1", "()Z"⟩
abbrev cJ0_checkIndex_df160 : ByteArray := prog_11_method_155_code
def yJ0_checkIndex_df160 : MethodName := ⟨RJ0, "checkIndex", "(II)V"⟩
def RJ1 : String := "java/lang/StringLatin1"
def TJ1 : u_T := fun k => match k with
  | _ => ("", "", "", false)
def tyJ1 : Nat → FieldType := fun k => match k with
  | _ => .int
abbrev wsJ10 : List Cond := u_ws RJ1 TJ1 0
theorem nmJ1 : ∀ a, a < 0 → ∀ b, b < 0 → a ≠ b → (TJ1 a).2.1 ≠ (TJ1 b).2.1 := by decide +kernel
theorem tyJ1_ok : ∀ k, k < 0 → parseFieldDescriptor (TJ1 k).2.2.1 = some (tyJ1 k) := by decide +kernel
abbrev cJ1_charAt_3b067 : ByteArray := prog_12_method_2_code
def yJ1_charAt_3b067 : MethodName := ⟨RJ1, "charAt", "([BI)C"⟩
def RJ2 : String := "java/lang/StringUTF16"
def TJ2 : u_T := fun k => match k with
  | _ => ("", "", "", false)
def tyJ2 : Nat → FieldType := fun k => match k with
  | _ => .int
abbrev wsJ20 : List Cond := u_ws RJ2 TJ2 0
theorem nmJ2 : ∀ a, a < 0 → ∀ b, b < 0 → a ≠ b → (TJ2 a).2.1 ≠ (TJ2 b).2.1 := by decide +kernel
theorem tyJ2_ok : ∀ k, k < 0 → parseFieldDescriptor (TJ2 k).2.2.1 = some (tyJ2 k) := by decide +kernel
abbrev cJ2_getChar_3b067 : ByteArray := prog_13_method_5_code
def yJ2_getChar_3b067 : MethodName := ⟨RJ2, "getChar", "([BI)C"⟩
abbrev cJ2_length_9d52b : ByteArray := prog_13_method_6_code
def yJ2_length_9d52b : MethodName := ⟨RJ2, "length", "([B)I"⟩
abbrev cJ2_charAt_3b067 : ByteArray := prog_13_method_83_code
def yJ2_charAt_3b067 : MethodName := ⟨RJ2, "charAt", "([BI)C"⟩
abbrev cJ2_checkIndex_2214a : ByteArray := prog_13_method_91_code
def yJ2_checkIndex_2214a : MethodName := ⟨RJ2, "checkIndex", "(I[B)V"⟩
def RJ10 : String := "java/lang/System"
def TJ10 : u_T := fun k => match k with
  | _ => ("", "", "", false)
def tyJ10 : Nat → FieldType := fun k => match k with
  | _ => .int
abbrev wsJ100 : List Cond := u_ws RJ10 TJ10 0
theorem nmJ10 : ∀ a, a < 0 → ∀ b, b < 0 → a ≠ b → (TJ10 a).2.1 ≠ (TJ10 b).2.1 := by decide +kernel
theorem tyJ10_ok : ∀ k, k < 0 → parseFieldDescriptor (TJ10 k).2.2.1 = some (tyJ10 k) := by decide +kernel
def RJ3 : String := "jdk/internal/util/Preconditions"
def TJ3 : u_T := fun k => match k with
  | _ => ("", "", "", false)
def tyJ3 : Nat → FieldType := fun k => match k with
  | _ => .int
abbrev wsJ30 : List Cond := u_ws RJ3 TJ3 0
theorem nmJ3 : ∀ a, a < 0 → ∀ b, b < 0 → a ≠ b → (TJ3 a).2.1 ≠ (TJ3 b).2.1 := by decide +kernel
theorem tyJ3_ok : ∀ k, k < 0 → parseFieldDescriptor (TJ3 k).2.2.1 = some (tyJ3 k) := by decide +kernel
abbrev cJ3_checkIndex_8e157 : ByteArray := prog_15_method_11_code
def yJ3_checkIndex_8e157 : MethodName := ⟨RJ3, "checkIndex", "(IILjava/util/function/BiFunction;)I"⟩
def RL : String := "EachBookOnceLaw"
abbrev cL_law : ByteArray := code
def yL_law : MethodName := ⟨RL, "law", "([I)Z"⟩
def wsX4_init : List Cond := .code yX4_init cX4_init 1 none :: ([.methodLink RX4 3 objectInit, .instanceMethod objectInit, .code objectInit ⟨#[0xb1]⟩ 1 none, .fieldLink RX4 9 "EachBookOnce$Town" "luck" "I", .arrayClass .int, .fieldLink RX4 15 "EachBookOnce$Town" "worth" "[I", .fieldLink RX4 19 "EachBookOnce$Town" "needed" "[I", .fieldLink RX4 22 "EachBookOnce$Town" "good" "[I", .fieldLink RX4 25 "EachBookOnce$Town" "age" "[I", .fieldLink RX4 28 "EachBookOnce$Town" "reading" "[I", .fieldLink RX4 31 "EachBookOnce$Town" "memory" "[I", .fieldLink RX4 34 "EachBookOnce$Town" "telling" "[I", .fieldLink RX4 37 "EachBookOnce$Town" "share" "[I"] ++ wsX40)
end
section
/-- the tables say that there is the class of arrays over arrays of ty -/
def va_AOA (ty : FieldType) (U : State) : Prop := (Cond.arrayOver (.array ty)).before #[] U = true
theorem va_AOA.use {ty : FieldType} {A : Array Value} {U : State} (h : va_AOA ty U) : (Cond.arrayOver (.array ty)).before A U = true := h
theorem va_AOA.moved {ty : FieldType} {u U : State} (hvm : u.vm.Alike U.vm) (h : va_AOA ty u) : va_AOA ty U := Jvm.Stand.arrayOver_alikeB hvm h
/-! ===== BEGIN new T[n][m]: the outer array a place, the inner ones among the pooled ===== -/
/-- f, but v at every address of l -/
def vr_up {α : Type} (f : Nat → α) (l : List Nat) (v : α) : Nat → α := fun a => if a ∈ l then v else f a
theorem vr_up_in {α : Type} {f : Nat → α} {l : List Nat} {v : α} {a : Nat} (h : a ∈ l) : vr_up f l v a = v := if_pos h
theorem vr_up_ne {α : Type} {f : Nat → α} {l : List Nat} {v : α} {a : Nat} (h : a ∉ l) : vr_up f l v a = f a := if_neg h
theorem vr_rows {L l : List Nat} {f : Nat → va_E} {e : va_E} (h : ∀ a, a ∈ l → a ∉ L) : va_pl L f ++ l.map (fun a => (a, e)) = va_pl (L ++ l) (vr_up f l e) := by
  unfold va_pl
  rw [List.map_append]
  congr 1
  · apply List.map_congr_left
    intro a ha
    rw [vr_up_ne (fun q => h a q ha)]
  · apply List.map_congr_left
    intro a ha
    rw [vr_up_in ha]
theorem vr_lay {X rows : va_W} {x : Nat × va_E} {pl : va_W} {D : va_G} {cl : List vw_C} {H : Heap} (hP : va_P D cl (((X ++ pl) ++ [x]) ++ rows) H) : va_P D cl ((X ++ [x]) ++ (pl ++ rows)) H := by
  rw [List.append_assoc (X ++ pl)] at hP
  have h := va_P.swap hP
  rw [← List.append_assoc X] at h
  have h2 := va_P.swap h
  rw [List.append_assoc (X ++ [x])] at h2
  exact h2
theorem vr_layD {X rows : va_W} {x : Nat × va_E} {pl : va_W} {A : Nat → Prop} (hD : va_D A (((X ++ pl) ++ [x]) ++ rows)) : va_D A ((X ++ [x]) ++ (pl ++ rows)) := by
  rw [List.append_assoc (X ++ pl)] at hD
  have h := va_D.swap hD
  rw [← List.append_assoc X] at h
  have h2 := va_D.swap h
  rw [List.append_assoc (X ++ [x])] at h2
  exact h2
theorem vr_outer (c : ClassId) (N h0 : Nat) : ∀ i : Nat, Jvm.Free.Multi.outerC c N h0 i = arrV c N (fun j => va_rf (if j < i then some (h0 + 1 + j) else none))
  | 0 => by
    show ({ cls := c, slots := Array.replicate N .null, vm := .none } : Cell) = _
    rw [arrV_new]
    refine congrArg (arrV c N) (funext fun j => ?_)
    simp [va_rf]
  | i + 1 => by
    show (Jvm.Free.Multi.outerC c N h0 i).setSlot i (.ref (h0 + 1 + i)) = _
    rw [vr_outer c N h0 i, arrV_store]
    refine congrArg (arrV c N) (funext fun j => ?_)
    by_cases e : j = i
    · subst e
      simp [updV, va_rf]
    · by_cases h : j < i
      · simp [updV, e, h, Nat.lt_succ_of_lt h]
      · simp [updV, e, h, show ¬ j < i + 1 by omega]
section VGM
variable {p : Program} {l : Launch} {e : Env} {R : Room} {s : State} {m : MethodId} {args : Array Value} {below : List Frame} {meth : Method} {c : Code} {H : Heap} {locs : List Loc} {cells slots : Nat} {Q : State → Prop}
variable {cc : ByteArray} {pc : Nat} {ls : Array Slot} {rest : List Value} {D : va_G} {cl : List vw_C} {A : Nat → Prop} {a : Nat} {tys : List (ClassId × FieldType)} {ws : va_W} {H0 : Heap}
theorem va_mna {X : va_W} {L : List Nat} {f : Nat → va_E} {cc : ByteArray} (hexec : p.tables.exec = Jvm.exec) (hb : c.code = cc) {own : String} {index : Nat} {ty : FieldType} {cy : ClassId} (hown : s.vm.findClass own = some m.cls) (hclink : (Cond.classLink own index ("[" ++ (FieldType.array ty).toString)).before args s = true) (hover : va_AOA ty s) (harr : (Cond.arrayClass ty).before args s = true) (hcy : s.vm.findClass (FieldType.array ty).toString = some cy)
    (hK : va_K D cl tys s) (hP : va_P D cl (X ++ va_pl L f) H) (hD : va_D A (X ++ va_pl L f)) (hS : va_S A H0 H locs) (hA : ∀ q, H0.size ≤ q → A q) {n k : Int32} {N' K' : Nat} {z : vp_A} (hn : ¬ n < 0) (hk : ¬ k < 0) (hN : n.toNatClampNeg = N') (hM : k.toNatClampNeg = K')
    (hb1 : N' * 4 ≤ 536870912) (hb2 : K' * componentBytes ty ≤ 536870912) (hb3 : K' ≤ 536870912) (hdf : fits ty (defaultValue ty) = true) (hdd : (defaultValue ty).isDefault = true) (hcells : cells + (1 + N') ≤ R.cells) (hslots : slots + (N' + N' * K') ≤ R.slots) (hz : ∀ c : ClassId, Jvm.Free.Multi.innerC c K' (defaultValue ty) = vp_cell c z) (hdg : decode cc pc = .ok (.multianewarray index 2, 4))
    (kk : ∀ (q : Nat) (r : Nat → Nat) (cA : ClassId) (H1 : Heap), (∀ i j : Nat, i < N' → j < N' → r i = r j → i = j) → (∀ i : Nat, i < N' → r i ∉ L) → va_K D cl (tys ++ [(cA, .array ty)]) s →
      va_P D cl ((X ++ [(q, .inl (cA, N', .inr (.inr (.inr (.inr (fun i => if i < N' then some (r i) else none))))))]) ++ va_pl (L ++ (List.range N').map r) (vr_up f ((List.range N').map r) (.inl (cy, z)))) H1 → va_D A ((X ++ [(q, .inl (cA, N', .inr (.inr (.inr (.inr (fun i => if i < N' then some (r i) else none))))))]) ++ va_pl (L ++ (List.range N').map r) (vr_up f ((List.range N').map r) (.inl (cy, z)))) → va_S A H0 H1 locs →
      W p l e R s m args below meth c H1 locs (cells + 1 + N') (slots + N' + N' * K') Q (F0 m (pc + 4) ls (.ref q :: rest))) : W p l e R s m args below meth c H locs cells slots Q (F0 m pc ls (.int k :: .int n :: rest)) := by
  subst hN
  subst hM
  intro T hT Xs
  obtain ⟨vm₁, cA, comp, -, fA, fC, hO, -, X', step⟩ := Xs.multianewarray2F hexec hown hclink (va_AOA.use hover) harr (g := F0 m pc ls (.int k :: .int n :: rest)) rfl (by rw [hb]; exact hdg) rfl hn hk hb1 hb2 hb3 hdf hdd hcells hslots
  have ec : some cy = some comp := hcy.symm.trans fC
  cases ec
  generalize hF : Jvm.Free.Multi.fill (T.setVm vm₁) cA cy n.toNatClampNeg k.toNatClampNeg (defaultValue ty) n.toNatClampNeg = F at X' step
  have hTh : (T.setVm vm₁).heap = H := hT
  obtain ⟨f1, f2, -, -⟩ := Jvm.Free.Multi.fill_facts (T.setVm vm₁) cA cy n.toNatClampNeg k.toNatClampNeg (defaultValue ty) n.toNatClampNeg
  rw [hF, hTh] at f1 f2
  have hold : ∀ x : Nat, x < H.size → F.heap[x]? = H[x]? := fun x hx => by
    have := Jvm.Free.Multi.fill_old (T.setVm vm₁) cA cy n.toNatClampNeg k.toNatClampNeg (defaultValue ty) (a := x) (by rw [hTh]; exact hx) n.toNatClampNeg
    rw [hF, hTh] at this
    exact this
  have hrow : ∀ j : Nat, j < n.toNatClampNeg → F.heap[H.size + 1 + j]? = some (vp_cell cy z) := fun j hj => by
    have := Jvm.Free.Multi.fill_inner (T.setVm vm₁) cA cy n.toNatClampNeg k.toNatClampNeg (defaultValue ty) n.toNatClampNeg j hj
    rw [hF, hTh, hz] at this
    exact this
  have hout : Jvm.Free.Multi.outerC cA n.toNatClampNeg H.size n.toNatClampNeg = vp_cell cA (n.toNatClampNeg, .inr (.inr (.inr (.inr (fun i => if i < n.toNatClampNeg then some (H.size + 1 + i) else none))))) := by
    rw [vp_cell_q]
    exact vr_outer cA n.toNatClampNeg H.size n.toNatClampNeg
  rw [hout] at f2
  have hlt : ∀ a, a ∈ L → a < H.size := fun a ha => by
    obtain ⟨k9, hk9⟩ := va_pl_get (X := X) (f := f) ha
    exact (hP k9 _ hk9).lt
  have hnl : ∀ i : Nat, i < n.toNatClampNeg → H.size + 1 + i ∉ L := fun i _ h => by
    have := hlt _ h
    omega
  have hnm : ∀ a, a ∈ (List.range n.toNatClampNeg).map (fun i => H.size + 1 + i) → a ∉ L := fun a ha h => by
    obtain ⟨i, -, rfl⟩ := List.mem_map.mp ha
    have := hlt _ h
    omega
  have hP0 : va_P D cl (X ++ va_pl L f) F.heap := hP.kept (fun k9 x hx => hold x.1 ((hP k9 x hx).lt))
  have hP1 : va_P D cl ((X ++ va_pl L f) ++ [(H.size, .inl (cA, n.toNatClampNeg, .inr (.inr (.inr (.inr (fun i => if i < n.toNatClampNeg then some (H.size + 1 + i) else none))))))]) F.heap := hP0.app (fun k9 x hx => by
    have h0 : k9 < 1 := (List.getElem?_eq_some_iff.mp hx).1
    rw [show k9 = 0 by omega] at hx
    cases hx
    exact f2)
  have hP2 : va_P D cl (((X ++ va_pl L f) ++ [(H.size, .inl (cA, n.toNatClampNeg, .inr (.inr (.inr (.inr (fun i => if i < n.toNatClampNeg then some (H.size + 1 + i) else none))))))]) ++ ((List.range n.toNatClampNeg).map (fun i => H.size + 1 + i)).map (fun a => (a, .inl (cy, z)))) F.heap := hP1.app (fun k9 x hx => by
    obtain ⟨a, ha, rfl⟩ := List.mem_map.mp (List.mem_of_getElem? hx)
    obtain ⟨i, hi, rfl⟩ := List.mem_map.mp ha
    exact hrow i (List.mem_range.mp hi))
  have hD2 : va_D A (((X ++ va_pl L f) ++ [(H.size, .inl (cA, n.toNatClampNeg, .inr (.inr (.inr (.inr (fun i => if i < n.toNatClampNeg then some (H.size + 1 + i) else none))))))]) ++ ((List.range n.toNatClampNeg).map (fun i => H.size + 1 + i)).map (fun a => (a, .inl (cy, z)))) := by
    have hD1 := hD.push (e := .inl (cA, n.toNatClampNeg, .inr (.inr (.inr (.inr (fun i => if i < n.toNatClampNeg then some (H.size + 1 + i) else none)))))) hP rfl (hA _ hS.1)
    generalize hW1 : (X ++ va_pl L f) ++ [(H.size, .inl (cA, n.toNatClampNeg, .inr (.inr (.inr (.inr (fun i => if i < n.toNatClampNeg then some (H.size + 1 + i) else none))))))] = W1 at hD1 hP1 ⊢
    have hle : ∀ (k9 : Nat) (x : Nat × va_E), W1[k9]? = some x → x.1 ≤ H.size := fun k9 x hx => by
      rw [← hW1] at hx
      by_cases hl : k9 < (X ++ va_pl L f).length
      · rw [List.getElem?_append_left hl] at hx
        exact Nat.le_of_lt ((hP k9 x hx).lt)
      · rw [List.getElem?_append_right (by omega)] at hx
        have h0 : k9 - (X ++ va_pl L f).length < 1 := (List.getElem?_eq_some_iff.mp hx).1
        rw [show k9 - (X ++ va_pl L f).length = 0 by omega] at hx
        cases hx
        exact Nat.le_refl _
    have hr : ∀ (k9 : Nat) (x : Nat × va_E), (((List.range n.toNatClampNeg).map (fun i => H.size + 1 + i)).map (fun a => ((a, .inl (cy, z)) : Nat × va_E)))[k9]? = some x → x.1 = H.size + 1 + k9 := fun k9 x hx => by
      rw [List.getElem?_map, List.getElem?_map] at hx
      by_cases h9 : k9 < n.toNatClampNeg
      · rw [List.getElem?_range h9] at hx
        cases hx
        rfl
      · have hn0 : (List.range n.toNatClampNeg)[k9]? = none := List.getElem?_eq_none (by rw [List.length_range]; omega)
        rw [hn0] at hx
        cases hx
    refine ⟨fun i j x y hi hj hxy => ?_, fun k9 x hx => ?_⟩
    · by_cases h1 : i < W1.length <;> by_cases h2 : j < W1.length
      · rw [List.getElem?_append_left h1] at hi
        rw [List.getElem?_append_left h2] at hj
        exact hD1.1 i j x y hi hj hxy
      · rw [List.getElem?_append_left h1] at hi
        rw [List.getElem?_append_right (by omega)] at hj
        have := hle _ _ hi
        have := hr _ _ hj
        omega
      · rw [List.getElem?_append_right (by omega)] at hi
        rw [List.getElem?_append_left h2] at hj
        have := hle _ _ hj
        have := hr _ _ hi
        omega
      · rw [List.getElem?_append_right (by omega)] at hi hj
        have := hr _ _ hi
        have := hr _ _ hj
        omega
    · by_cases h1 : k9 < W1.length
      · rw [List.getElem?_append_left h1] at hx
        exact hD1.2 k9 x hx
      · rw [List.getElem?_append_right (by omega)] at hx
        have := hr _ _ hx
        exact hA _ (by have := hS.1; omega)
  have hAr : ArrOfT s cA (.array ty) := fun N9 z9 => by
    obtain ⟨-, k9, hk9, cm9, hkk9⟩ := (hO 0 0 0).1
    exact ⟨(fun q hq => by cases hq), k9, hk9, cm9, hkk9⟩
  have hK2 : va_K D cl (tys ++ [(cA, .array ty)]) s := ⟨hK.1, fun k9 x hx => by
    by_cases hl : k9 < tys.length
    · rw [List.getElem?_append_left hl] at hx
      exact hK.2 k9 x hx
    · rw [List.getElem?_append_right (by omega)] at hx
      have h0 : k9 - tys.length < 1 := (List.getElem?_eq_some_iff.mp hx).1
      rw [show k9 - tys.length = 0 by omega] at hx
      cases hx
      exact ⟨hAr, fA⟩⟩
  obtain ⟨t, a1, b1⟩ := kk H.size (fun i => H.size + 1 + i) cA F.heap (fun i j _ _ h => by have h9 : H.size + 1 + i = H.size + 1 + j := h; omega) hnl hK2 (by rw [← vr_rows hnm]; exact vr_lay hP2) (by rw [← vr_rows hnm]; exact vr_layD hD2) ⟨by rw [f1]; have := hS.1; omega, fun x h1 h2 => (hold x (Nat.lt_of_lt_of_le h1 hS.1)).trans (hS.2.1 x h1 h2), hS.2.2⟩ F rfl X'
  refine ⟨t, step t ?_, b1⟩
  have e : T.heap.size = H.size := by rw [hT]
  rw [e]
  exact a1
end VGM
/-! ===== END ===== -/
end
section
/-! what all contracts share: one list of words, one picture of the tables, the ways in, out and through a call -/
abbrev CL : List vw_C := [(RX0, TX0, 4), (RX2, TX2, 4), (RX3, TX3, 7), (RX4, TX4, 13), (RX5, TX5, 9), (RX6, TX6, 35)]
def BIG : List Cond := lw_tbl.filter goodWord
theorem big_of {w : Cond} (h : w ∈ lw_tbl) (g : goodWord w = true) : w ∈ BIG := List.mem_filter.mpr ⟨h, g⟩
theorem big_t {w : Cond} (i : Nat) (h : tables_1[i]? = some w) (g : goodWord w = true) : w ∈ BIG := big_of (List.mem_append_right _ (List.mem_of_getElem? h)) g
theorem big_s {w : Cond} (i : Nat) (h : (k2_sels lw_privs)[i]? = some w) (g : goodWord w = true) : w ∈ BIG := big_of (List.mem_append_left _ (List.mem_of_getElem? h)) g
theorem big_good : GoodIn BIG BIG := fun w h => ⟨h, good_of_word (List.mem_filter.mp h).2⟩
theorem gB {c : Cond} (h : c ∈ BIG) : GoodIn BIG (c :: BIG) := fun w hw => by
  rcases List.mem_cons.mp hw with rfl | hw
  · exact big_good _ h
  · exact big_good _ hw
abbrev tysA (cy : Nat → ClassId) : List (ClassId × FieldType) := [(cy 0, .int), (cy 1, .long), (cy 2, .byte), (cy 3, .array .int), (cy 4, .array .long), (cy 5, .object RX6)]
abbrev AO0 : String := "EachBookOnce"
def nestF : List (String × Nat × String × String × String) := [(RX3, 77, "EachBookOnce$Town", "books", "I"), (RX1, 54, "EachBookOnce$Town", "books", "I"), (RX0, 70, "EachBookOnce$Town", "books", "I"), (RX5, 127, "EachBookOnce$Town", "books", "I"), (RX1, 40, "EachBookOnce$Town", "people", "I"), (RX0, 49, "EachBookOnce$Town", "people", "I"), (RX3, 98, "EachBookOnce$Town", "people", "I"), (RX5, 141, "EachBookOnce$Town", "people", "I"), (RX0, 73, "EachBookOnce$Town", "white", "I"), (RX3, 115, "EachBookOnce$Town", "white", "I"), (RX5, 180, "EachBookOnce$Town", "white", "I"), (RX1, 44, "EachBookOnce$Town", "gone", "I"), (RX5, 207, "EachBookOnce$Town", "gone", "I"), (RX5, 341, "EachBookOnce$Town", "luck", "I"), (RX5, 171, "EachBookOnce$Town", "worth", "[I"), (RX3, 95, "EachBookOnce$Town", "needed", "[I"), (RX5, 174, "EachBookOnce$Town", "needed", "[I"), (RX3, 89, "EachBookOnce$Town", "good", "[I"), (RX5, 177, "EachBookOnce$Town", "good", "[I"), (RX5, 195, "EachBookOnce$Town", "age", "[I"), (RX5, 198, "EachBookOnce$Town", "reading", "[I"), (RX5, 201, "EachBookOnce$Town", "memory", "[I"), (RX5, 204, "EachBookOnce$Town", "telling", "[I"), (RX5, 261, "EachBookOnce$Plans", "trial", "LEachBookOnce$Town;"), (RX5, 258, "EachBookOnce$Plans", "lastValue", "I"), (RX5, 291, "EachBookOnce$Plans", "bestSum", "I"), (RX5, 90, "EachBookOnce$Shelves", "holding", "[I"), (RX5, 67, "EachBookOnce$Shelves", "size", "[I"), (RX5, 112, "EachBookOnce$Shelves", "amount", "[I"), (RX5, 148, "EachBookOnce$Tape", "size", "I"), (RX5, 158, "EachBookOnce$Tape", "fault", "I"), (RX5, 161, "EachBookOnce$Tape", "draft", "LEachBookOnce$Town;")]
def nestM : List (String × Nat × MethodName) := [(RX5, 9, yX4_init), (RX5, 21, yX0_init), (RX0, 11, yX4_init), (RX5, 35, yX3_init), (RX3, 17, yX4_init), (RX4, 62, yX5_has), (RX4, 58, yX5_setOfAll), (RX1, 47, yX5_has), (RX0, 52, yX5_has)]
def strW : List (String × Nat × String) := [(RX3, 48, "book"), (RX3, 84, "good"), (RX3, 57, "need"), (RX3, 62, "one"), (RX3, 101, "reads"), (RX3, 103, "keeps"), (RX3, 105, "tells"), (RX3, 67, "knows"), (RX3, 72, "white"), (RX6, 198, "book"), (RX6, 199, "good"), (RX6, 204, "one"), (RX6, 205, "reads"), (RX6, 207, "keeps"), (RX6, 209, "tells"), (RX6, 210, "need"), (RX6, 212, "knows"), (RX6, 214, "white")]
def KN (G : va_G) (cy : Nat → ClassId) (U : State) : Prop := va_K G CL (tysA cy) U ∧ (∀ q ∈ nestF, va_Nw (.fieldLinkNest q.1 q.2.1 q.2.2.1 q.2.2.2.1 q.2.2.2.2 AO0) U) ∧ (∀ q ∈ nestM, va_Nw (.methodLinkNest q.1 q.2.1 q.2.2 AO0) U) ∧ (∀ q ∈ strW, ∃ a : Nat, vk_R q.1 q.2.1 q.2.2 a U) ∧ va_AO RX6 U ∧ va_AOA .int U ∧ va_AOA .long U
theorem KN.warm {G : va_G} {cy : Nat → ClassId} {s U : State} (hW : s.WarmedH U.vm) (h : KN G cy s) : KN G cy U :=
  ⟨va_K.moved hW.alike h.1, fun q hq => va_Nw.warmF hW (h.2.1 q hq), fun q hq => va_Nw.warmM hW (h.2.2.1 q hq), fun q hq => (h.2.2.2.1 q hq).elim fun a ha => ⟨a, vk_R.warm hW ha⟩, va_AO.moved hW.alike h.2.2.2.2.1, va_AOA.moved hW.alike h.2.2.2.2.2.1, va_AOA.moved hW.alike h.2.2.2.2.2.2⟩
theorem KN.call {G : va_G} {cy : Nat → ClassId} {U : State} {g : JFrame} {mk : MethodId} {a : Array Value} (h : KN G cy U) : KN G cy (U.calling g mk a) :=
  ⟨va_K.moved (Vm.Alike.refl U.vm) h.1, fun q hq => va_Nw.same rfl rfl (h.2.1 q hq), fun q hq => va_Nw.same rfl rfl (h.2.2.1 q hq), fun q hq => (h.2.2.2.1 q hq).elim fun a ha => ⟨a, vk_R.same rfl ha⟩, va_AO.moved (Vm.Alike.refl U.vm) h.2.2.2.2.1, va_AOA.moved (Vm.Alike.refl U.vm) h.2.2.2.2.2.1, va_AOA.moved (Vm.Alike.refl U.vm) h.2.2.2.2.2.2⟩
/-- the starts: a method that only reads, a method that writes -/
def Rd (G : va_G) (cy : Nat → ClassId) (ws : va_W) (av : List Value) : Array Value → State → Prop := va_Pc av (fun U => va_P G CL ws U.heap ∧ KN G cy U)
def Wr (G : va_G) (cy : Nat → ClassId) (ws : va_W) (sz : Nat) (av : List Value) : Array Value → State → Prop := va_Pc av (fun U => U.heap.size = sz ∧ va_P G CL ws U.heap ∧ KN G cy U ∧ va_D (fun _ => True) ws)
theorem Rd.blind {G : va_G} {cy : Nat → ClassId} {ws : va_W} {av : List Value} : FrameBlind (Rd G cy ws av) := fun _ _ _ _ q => ⟨q.1, q.2.1, q.2.2.call⟩
theorem Wr.blind {G : va_G} {cy : Nat → ClassId} {ws : va_W} {sz : Nat} {av : List Value} : FrameBlind (Wr G cy ws sz av) := fun _ _ _ _ q => ⟨q.1, q.2.1, q.2.2.1, q.2.2.2.1.call, q.2.2.2.2⟩
def Bw (G : va_G) (A : Nat → Prop) : va_W → State → Prop := fun u t => va_P G CL u t.heap ∧ va_D A u
abbrev Rm (d mc ms : Nat) : Room := { frames := d, cells := mc, slots := ms, locals := 60 * d }
abbrev MR (l : Launch) (y : MethodName) (cc : ByteArray) (n : Nat) (ret : Option FieldType) (d : Nat) (G : va_G) (cy : Nat → ClassId) (ws : va_W) (av : List Value) (Qc : Array Value → State → Outcome → State → Prop) : Prop := Met l y (.code y cc n ret :: BIG) (Rm d 0 0) (Rd G cy ws av) Qc 0 0 (fun _ => False)
abbrev MW (l : Launch) (y : MethodName) (cc : ByteArray) (n : Nat) (ret : Option FieldType) (d mc ms : Nat) (G : va_G) (cy : Nat → ClassId) (ws : va_W) (sz : Nat) (av : List Value) (QA : (Nat → Prop) → Array Value → State → Outcome → State → Prop) : Prop := Met l y (.code y cc n ret :: BIG) (Rm d mc ms) (Wr G cy ws sz av) (QA (va_A ws sz)) mc ms (va_A ws sz)
/-- the ends of a method that writes -/
abbrev Wi (G : va_G) (post : Int32 → va_W → Prop) : (Nat → Prop) → Array Value → State → Outcome → State → Prop := fun A => va_Qi post (Bw G A) A
abbrev Wv (G : va_G) (post : va_W → Prop) : (Nat → Prop) → Array Value → State → Outcome → State → Prop := fun A => va_Qv post (Bw G A) A
abbrev Wq (G : va_G) (post : Nat → va_W → Prop) : (Nat → Prop) → Array Value → State → Outcome → State → Prop := fun A => va_Qr (fun _ : va_W => True) (fun u a t => Bw G A u t ∧ post a u) A
theorem enR {l : Launch} {y : MethodName} {cc : ByteArray} {n : Nat} {ret : Option FieldType} {d : Nat} {G : va_G} {cy : Nat → ClassId} {ws : va_W} {av : List Value} {Qc : Array Value → State → Outcome → State → Prop} (own : String) (hy : plainName y.cls = true) (ho : y.cls = own) (hn : (lg_sl av).length ≤ n)
    (body : ∀ (p : Program) (e : Env) (s : State) (m : MethodId) (below : List Frame) (meth : Method) (c : Code) (ls : Array Slot), p.tables.exec = Jvm.exec → c.code = cc → c.maxLocals = n → s.vm.findClass own = some m.cls → (∀ w ∈ BIG, w.before av.toArray s = true) → meth.sig.returnType = ret → meth.locks = false → va_P G CL ws s.heap → KN G cy s → lv_has ls n (lv_args 0 av) →
      W p l e (Rm d 0 0) s m av.toArray below meth c s.heap [] 0 0 (MQ below Qc av.toArray s 0 0 (fun _ => False)) (F0 m 0 ls [])) : MR l y cc n ret d G cy ws av Qc := by
  refine Met.ofW (cc := cc) (maxL := n) (ret := ret) hy rfl ?_
  intro p e s m args below meth c s₁ B hml hv
  obtain ⟨rfl, hP, hN⟩ := hv
  have hts := atoms_spec (ws := .code y cc n ret :: BIG) B.pre
  have hown : s.vm.findClass own = some m.cls := by rw [← ho]; exact findClass_of_methodNamed B.named
  rw [lg_entry_eq]
  exact body p e s m below meth c _ B.exec B.bytes hml hown (fun w h => hts w (List.mem_cons_of_mem _ h)) B.returns B.notSynchronized hP hN (lv_entry av hn)
theorem enW {l : Launch} {y : MethodName} {cc : ByteArray} {n : Nat} {ret : Option FieldType} {d mc ms : Nat} {G : va_G} {cy : Nat → ClassId} {ws : va_W} {sz : Nat} {av : List Value} {QA : (Nat → Prop) → Array Value → State → Outcome → State → Prop} (own : String) (hy : plainName y.cls = true) (ho : y.cls = own) (hn : (lg_sl av).length ≤ n)
    (body : ∀ (p : Program) (e : Env) (s : State) (m : MethodId) (below : List Frame) (meth : Method) (c : Code) (ls : Array Slot) (A : Nat → Prop), p.tables.exec = Jvm.exec → c.code = cc → c.maxLocals = n → s.vm.findClass own = some m.cls → (∀ w ∈ BIG, w.before av.toArray s = true) → meth.sig.returnType = ret → meth.locks = false → va_P G CL ws s.heap → KN G cy s → lv_has ls n (lv_args 0 av) → meth.name = y.name →
      va_D A ws → (∀ q : Nat, s.heap.size ≤ q → A q) → va_S A s.heap s.heap [] →
      W p l e (Rm d mc ms) s m av.toArray below meth c s.heap [] 0 0 (MQ below (QA A) av.toArray s mc ms A) (F0 m 0 ls [])) : MW l y cc n ret d mc ms G cy ws sz av QA := by
  refine Met.ofW (cc := cc) (maxL := n) (ret := ret) hy rfl ?_
  intro p e s m args below meth c s₁ B hml hv
  obtain ⟨rfl, hsz, hP, hN, hD0⟩ := hv
  have hts := atoms_spec (ws := .code y cc n ret :: BIG) B.pre
  have hown : s.vm.findClass own = some m.cls := by rw [← ho]; exact findClass_of_methodNamed B.named
  subst hsz
  rw [lg_entry_eq]
  exact body p e s m below meth c _ _ B.exec B.bytes hml hown (fun w h => hts w (List.mem_cons_of_mem _ h)) B.returns B.notSynchronized hP hN (lv_entry av hn) (name_of_methodNamed B.named B.method).1 hD0.self (fun q h => Or.inr h) va_S.rf
/-- the links of a call -/
abbrev LkD (y : MethodName) (k : Nat) : Prop := y.cls ≠ "java/lang/invoke/MethodHandle" ∧ y.cls ≠ "java/lang/invoke/VarHandle" ∧ (parseMethodDescriptor y.desc).map (fun d => d.parameters.length) = some k
def LkV (own : String) (index : Nat) (C : String) (y : MethodName) (bytes : ByteArray) (maxL : Nat) (ret : Option FieldType) (k : Nat) : Prop := Cond.methodLink own index y ∈ BIG ∧ Cond.initialized y.cls ∈ BIG ∧ Cond.code y bytes maxL ret ∈ BIG ∧ LkD y k ∧ Cond.instanceMethod y ∈ BIG ∧ Cond.selects C y y ∈ BIG
def LkS (own : String) (index : Nat) (y : MethodName) (bytes : ByteArray) (maxL : Nat) (ret : Option FieldType) (k : Nat) : Prop := Cond.methodLink own index y ∈ BIG ∧ Cond.initialized y.cls ∈ BIG ∧ Cond.code y bytes maxL ret ∈ BIG ∧ LkD y k ∧ Cond.static y ∈ BIG
def LkI (own : String) (index : Nat) (y : MethodName) (bytes : ByteArray) (maxL : Nat) (k : Nat) : Prop := Cond.methodLink own index y ∈ BIG ∧ Cond.initialized y.cls ∈ BIG ∧ Cond.code y bytes maxL none ∈ BIG ∧ LkD y k ∧ y.name = "<init>" ∧ Cond.instanceMethod y ∈ BIG
def LkSN (own : String) (index : Nat) (y : MethodName) (bytes : ByteArray) (maxL : Nat) (ret : Option FieldType) (k : Nat) : Prop := (own, index, y) ∈ nestM ∧ Cond.initialized y.cls ∈ BIG ∧ Cond.code y bytes maxL ret ∈ BIG ∧ LkD y k ∧ Cond.static y ∈ BIG
def LkIN (own : String) (index : Nat) (y : MethodName) (bytes : ByteArray) (maxL : Nat) (k : Nat) : Prop := (own, index, y) ∈ nestM ∧ Cond.initialized y.cls ∈ BIG ∧ Cond.code y bytes maxL none ∈ BIG ∧ LkD y k ∧ y.name = "<init>" ∧ Cond.instanceMethod y ∈ BIG
section BCALL
variable {p : Program} {l : Launch} {e : Env} {R : Room} {s : State} {m : MethodId} {args : Array Value} {below : List Frame} {meth : Method} {c : Code} {H : Heap} {locs : List Loc} {cells slots : Nat} {Q : State → Prop}
variable {y : MethodName} {bytes cc : ByteArray} {maxL nL mc ms index d pc : Nat} {ret : Option FieldType} {Pc : Array Value → State → Prop} {Qc : Array Value → State → Outcome → State → Prop} {free : Addr → Prop} {own C : String} {b : Addr} {As rest st0 : List Value} {ls : Array Slot} {G : va_G} {cy : Nat → ClassId}
theorem rV (S : CallFix p m c cc nL s args BIG own) (hM : Met l y (.code y bytes maxL ret :: BIG) (Rm d mc ms) Pc Qc mc ms free) (L : LkV own index C y bytes maxL ret As.length) (hp : PreV s H C b Pc As) (hst : st0 = As.reverse ++ .ref b :: rest)
    (hR : d + 1 ≤ R.frames ∧ 8 + (maxL + 11) + 60 * d ≤ R.locals) (hsize : ls.size = nL) (hW : (rest.map fun v => v.category).sum ≤ 8) (hdg : decode cc pc = .ok (.invokevirtual index, 3)) (hf : cells + mc ≤ R.cells ∧ slots + ms ≤ R.slots) :
    va_Run p l e R s m args below meth c H locs cells slots mc ms (F0 m pc ls st0) rest (Qc (Value.ref b :: As).toArray) free := by
  obtain ⟨k1, k2, k3, k4, k5, k6⟩ := L
  have hts := S.2.2.2.2
  exact va_runV S hM ⟨callB_of As.length hts (gB k3) rfl rfl rfl (hts _ k2) (hts _ k1) k4 hR, hts _ k5, hts _ k6⟩ hp rfl rfl hsize hst (lv_room hW) hdg hf
theorem rS (S : CallFix p m c cc nL s args BIG own) (hM : Met l y (.code y bytes maxL ret :: BIG) (Rm d mc ms) Pc Qc mc ms free) (L : LkS own index y bytes maxL ret As.length) (hp : PreS s H Pc As) (hst : st0 = As.reverse ++ rest)
    (hR : d + 1 ≤ R.frames ∧ 8 + (maxL + 11) + 60 * d ≤ R.locals) (hsize : ls.size = nL) (hW : (rest.map fun v => v.category).sum ≤ 8) (hdg : decode cc pc = .ok (.invokestatic index, 3)) (hf : cells + mc ≤ R.cells ∧ slots + ms ≤ R.slots) :
    va_Run p l e R s m args below meth c H locs cells slots mc ms (F0 m pc ls st0) rest (Qc As.toArray) free := by
  obtain ⟨k1, k2, k3, k4, k5⟩ := L
  have hts := S.2.2.2.2
  exact va_runS S hM ⟨callB_of As.length hts (gB k3) rfl rfl rfl (hts _ k2) (hts _ k1) k4 hR, hts _ k5⟩ hp rfl rfl hsize hst (lv_room hW) hdg hf
theorem rI (S : CallFix p m c cc nL s args BIG own) (hM : Met l y (.code y bytes maxL none :: BIG) (Rm d mc ms) Pc Qc mc ms free) (L : LkI own index y bytes maxL As.length) (hp : PreS s H Pc (.ref b :: As)) (hst : st0 = As.reverse ++ .ref b :: rest)
    (hR : d + 1 ≤ R.frames ∧ 8 + (maxL + 11) + 60 * d ≤ R.locals) (hsize : ls.size = nL) (hW : (rest.map fun v => v.category).sum ≤ 8) (hdg : decode cc pc = .ok (.invokespecial index, 3)) (hf : cells + mc ≤ R.cells ∧ slots + ms ≤ R.slots) :
    va_Run p l e R s m args below meth c H locs cells slots mc ms (F0 m pc ls st0) rest (Qc (Value.ref b :: As).toArray) free := by
  obtain ⟨k1, k2, k3, k4, k5, k6⟩ := L
  have hts := S.2.2.2.2
  exact va_runI S hM ⟨callB_of As.length hts (gB k3) rfl rfl rfl (hts _ k2) (hts _ k1) k4 hR, k5, hts _ k6⟩ hp rfl rfl hsize hst (lv_room hW) hdg hf
theorem rSN (S : CallFix p m c cc nL s args BIG own) (hN : KN G cy s) (hM : Met l y (.code y bytes maxL ret :: BIG) (Rm d mc ms) Pc Qc mc ms free) (L : LkSN own index y bytes maxL ret As.length) (hp : PreS s H Pc As) (hst : st0 = As.reverse ++ rest)
    (hR : d + 1 ≤ R.frames ∧ 8 + (maxL + 11) + 60 * d ≤ R.locals) (hsize : ls.size = nL) (hW : (rest.map fun v => v.category).sum ≤ 8) (hdg : decode cc pc = .ok (.invokestatic index, 3)) (hf : cells + mc ≤ R.cells ∧ slots + ms ≤ R.slots) :
    va_Run p l e R s m args below meth c H locs cells slots mc ms (F0 m pc ls st0) rest (Qc As.toArray) free := by
  obtain ⟨k1, k2, k3, k4, k5⟩ := L
  have hts := S.2.2.2.2
  exact va_runSN S hM ⟨va_cnB As.length hts (gB k3) rfl rfl rfl (hN.2.2.1 _ k1) (hts _ k2) k4 hR, hts _ k5, trivial⟩ hp rfl rfl hsize hst (lv_room hW) hdg hf
theorem rIN (S : CallFix p m c cc nL s args BIG own) (hN : KN G cy s) (hM : Met l y (.code y bytes maxL none :: BIG) (Rm d mc ms) Pc Qc mc ms free) (L : LkIN own index y bytes maxL As.length) (hp : PreS s H Pc (.ref b :: As)) (hst : st0 = As.reverse ++ .ref b :: rest)
    (hR : d + 1 ≤ R.frames ∧ 8 + (maxL + 11) + 60 * d ≤ R.locals) (hsize : ls.size = nL) (hW : (rest.map fun v => v.category).sum ≤ 8) (hdg : decode cc pc = .ok (.invokespecial index, 3)) (hf : cells + mc ≤ R.cells ∧ slots + ms ≤ R.slots) :
    va_Run p l e R s m args below meth c H locs cells slots mc ms (F0 m pc ls st0) rest (Qc (Value.ref b :: As).toArray) free := by
  obtain ⟨k1, k2, k3, k4, k5, k6⟩ := L
  have hts := S.2.2.2.2
  exact va_runIN S hM ⟨va_cnB As.length hts (gB k3) rfl rfl rfl (hN.2.2.1 _ k1) (hts _ k2) k4 hR, k5, hts _ k6⟩ hp rfl rfl hsize hst (lv_room hW) hdg hf
/-- what a call wants of the caller's world -/
theorem preRV {ws wc : va_W} {q : vw_C} {fs : List Value} (hN : KN G cy s) (hP : va_P G CL ws H) (isC : List Nat) (hC : isC.filterMap (fun i => ws[i]?) = wc) (qr ci : Nat) (he : ws[qr]? = some (b, .inr (ci, fs))) (hc : CL[ci]? = some q) : PreV s H q.1 b (Rd G cy wc (.ref b :: As)) As :=
  ⟨Rd.blind, va_recv hN.1 hP hc he, fun U hU hW => ⟨rfl, by rw [hU]; exact hP.sub isC hC, hN.warm hW⟩⟩
theorem preRS {ws wc : va_W} (hN : KN G cy s) (hP : va_P G CL ws H) (isC : List Nat) (hC : isC.filterMap (fun i => ws[i]?) = wc) : PreS s H (Rd G cy wc As) As :=
  ⟨Rd.blind, fun U hU hW => ⟨rfl, by rw [hU]; exact hP.sub isC hC, hN.warm hW⟩⟩
theorem va_sub2 {ws wc : va_W} {isC : List Nat} (hC : isC.map (fun i => ws[i]?) = wc.map some) : isC.filterMap (fun i => ws[i]?) = wc := by
  induction isC generalizing wc with
  | nil => cases wc with
    | nil => rfl
    | cons a t => simp at hC
  | cons i t ih => cases wc with
    | nil => simp at hC
    | cons a u =>
      simp only [List.map_cons, List.cons.injEq] at hC
      rw [List.filterMap_cons, hC.1, ih hC.2]
theorem preWV {ws wc : va_W} {q : vw_C} {fs : List Value} {A : Nat → Prop} (hN : KN G cy s) (hP : va_P G CL ws H) (hD : va_D A ws) (isC : List Nat) (hC : isC.map (fun i => ws[i]?) = wc.map some) (hn : va_nd isC = true) (qr ci : Nat) (he : ws[qr]? = some (b, .inr (ci, fs))) (hc : CL[ci]? = some q) : PreV s H q.1 b (Wr G cy wc H.size (.ref b :: As)) As :=
  ⟨Wr.blind, va_recv hN.1 hP hc he, fun U hU hW => ⟨rfl, by rw [hU], by rw [hU]; exact hP.sub isC (va_sub2 hC), hN.warm hW, (hD.sub isC hn hC).weaken (fun _ _ _ _ => trivial)⟩⟩
theorem preWS {ws wc : va_W} {A : Nat → Prop} (hN : KN G cy s) (hP : va_P G CL ws H) (hD : va_D A ws) (isC : List Nat) (hC : isC.map (fun i => ws[i]?) = wc.map some) (hn : va_nd isC = true) : PreS s H (Wr G cy wc H.size As) As :=
  ⟨Wr.blind, fun U hU hW => ⟨rfl, by rw [hU], by rw [hU]; exact hP.sub isC (va_sub2 hC), hN.warm hW, (hD.sub isC hn hC).weaken (fun _ _ _ _ => trivial)⟩⟩
variable {a : Array Value}
theorem kRi {post : Int32 → Prop} (hr : va_Run p l e R s m args below meth c H locs cells slots 0 0 (F0 m pc ls st0) rest (vp_Si post a) (fun _ => False))
    (kk : ∀ r : Int32, post r → W p l e R s m args below meth c H locs cells slots Q (F0 m (pc + 3) ls (.int r :: rest))) : W p l e R s m args below meth c H locs cells slots Q (F0 m pc ls st0) := by
  intro T hT X
  obtain ⟨v, st₀, t, T', L, h0, X', hL, e1, e2, ⟨r, hv, hp, hh⟩, st⟩ := hr T hT X
  cases hv
  obtain ⟨t2, a1, b1⟩ := kk r hp T' (by rw [e1, hh, h0]) (Stand.forget X' (fun q h => (hL q h).elim))
  exact ⟨t2, st t2 a1, b1⟩
theorem kRl {post : Int64 → Prop} (hr : va_Run p l e R s m args below meth c H locs cells slots 0 0 (F0 m pc ls st0) rest (vp_Sl post a) (fun _ => False))
    (kk : ∀ r : Int64, post r → W p l e R s m args below meth c H locs cells slots Q (F0 m (pc + 3) ls (.long r :: rest))) : W p l e R s m args below meth c H locs cells slots Q (F0 m pc ls st0) := by
  intro T hT X
  obtain ⟨v, st₀, t, T', L, h0, X', hL, e1, e2, ⟨r, hv, hp, hh⟩, st⟩ := hr T hT X
  cases hv
  obtain ⟨t2, a1, b1⟩ := kk r hp T' (by rw [e1, hh, h0]) (Stand.forget X' (fun q h => (hL q h).elim))
  exact ⟨t2, st t2 a1, b1⟩
variable {ws wc wr : va_W} {A : Nat → Prop} {H0 : Heap}
theorem kWi {post : Int32 → va_W → Prop} (hr : va_Run p l e R s m args below meth c H locs cells slots mc ms (F0 m pc ls st0) rest (Wi G post (va_A wc H.size) a) (va_A wc H.size)) (hP : va_P G CL ws H) (hD : va_D A ws) (hS : va_S A H0 H locs) (hA : ∀ q, H0.size ≤ q → A q)
    (isC isR : List Nat) (hC : isC.map (fun i => ws[i]?) = wc.map some) (hR : isR.map (fun i => ws[i]?) = wr.map some) (hn : va_nd isR = true) (hdis : ∀ i ∈ isR, i ∉ isC)
    (kk : ∀ (r : Int32) (u : va_W) (H1 : Heap) (locs1 : List Loc), post r u → va_P G CL (wr ++ u) H1 → va_D A (wr ++ u) → va_S A H0 H1 locs1 → W p l e R s m args below meth c H1 locs1 (cells + mc) (slots + ms) Q (F0 m (pc + 3) ls (.int r :: rest))) : W p l e R s m args below meth c H locs cells slots Q (F0 m pc ls st0) := by
  have hF := va_free (wc := wc) hD hS hA isC hC
  refine va_calli hr hS (fun q _ h => hF q h) hF (fun r u t H1 locs1 ht hvm hw hB hz1 hk1 hS1 => ?_)
  obtain ⟨hP1, hD1⟩ := hB
  rw [ht] at hP1
  obtain ⟨hP2, hD2⟩ := va_join hP hD isC isR hC hR hn hdis hk1 hF hP1 hD1
  exact kk r u H1 locs1 hw hP2 hD2 hS1
theorem kWv {post : va_W → Prop} (hr : va_Run p l e R s m args below meth c H locs cells slots mc ms (F0 m pc ls st0) rest (Wv G post (va_A wc H.size) a) (va_A wc H.size)) (hP : va_P G CL ws H) (hD : va_D A ws) (hS : va_S A H0 H locs) (hA : ∀ q, H0.size ≤ q → A q)
    (isC isR : List Nat) (hC : isC.map (fun i => ws[i]?) = wc.map some) (hR : isR.map (fun i => ws[i]?) = wr.map some) (hn : va_nd isR = true) (hdis : ∀ i ∈ isR, i ∉ isC)
    (kk : ∀ (u : va_W) (H1 : Heap) (locs1 : List Loc), post u → va_P G CL (wr ++ u) H1 → va_D A (wr ++ u) → va_S A H0 H1 locs1 → W p l e R s m args below meth c H1 locs1 (cells + mc) (slots + ms) Q (F0 m (pc + 3) ls rest)) : W p l e R s m args below meth c H locs cells slots Q (F0 m pc ls st0) := by
  have hF := va_free (wc := wc) hD hS hA isC hC
  refine va_callv hr hS (fun q _ h => hF q h) hF (fun u t H1 locs1 ht hvm hw hB hz1 hk1 hS1 => ?_)
  obtain ⟨hP1, hD1⟩ := hB
  rw [ht] at hP1
  obtain ⟨hP2, hD2⟩ := va_join hP hD isC isR hC hR hn hdis hk1 hF hP1 hD1
  exact kk u H1 locs1 hw hP2 hD2 hS1
theorem kWq {post : Nat → va_W → Prop} (hr : va_Run p l e R s m args below meth c H locs cells slots mc ms (F0 m pc ls st0) rest (Wq G post (va_A wc H.size) a) (va_A wc H.size)) (hP : va_P G CL ws H) (hD : va_D A ws) (hS : va_S A H0 H locs) (hA : ∀ q, H0.size ≤ q → A q)
    (isC isR : List Nat) (hC : isC.map (fun i => ws[i]?) = wc.map some) (hR : isR.map (fun i => ws[i]?) = wr.map some) (hn : va_nd isR = true) (hdis : ∀ i ∈ isR, i ∉ isC)
    (kk : ∀ (r : Nat) (u : va_W) (H1 : Heap) (locs1 : List Loc), post r u → va_P G CL (wr ++ u) H1 → va_D A (wr ++ u) → va_S A H0 H1 locs1 → W p l e R s m args below meth c H1 locs1 (cells + mc) (slots + ms) Q (F0 m (pc + 3) ls (.ref r :: rest))) : W p l e R s m args below meth c H locs cells slots Q (F0 m pc ls st0) := by
  have hF := va_free (wc := wc) hD hS hA isC hC
  refine va_callr hr hS (fun q _ h => hF q h) hF (fun u ra t H1 locs1 ht hvm hw hB hz1 hk1 hS1 => ?_)
  obtain ⟨⟨hP1, hD1⟩, hpo⟩ := hB
  rw [ht] at hP1
  obtain ⟨hP2, hD2⟩ := va_join hP hD isC isR hC hR hn hdis hk1 hF hP1 hD1
  exact kk ra u H1 locs1 hpo hP2 hD2 hS1
variable {tys : List (ClassId × FieldType)}
theorem lv_seti {x v : Int32} (h : x = v) (k : W p l e R s m args below meth c H locs cells slots Q (F0 m pc ls (.int v :: rest))) : W p l e R s m args below meth c H locs cells slots Q (F0 m pc ls (.int x :: rest)) := h ▸ k
theorem lv_setl {x v : Int64} (h : x = v) (k : W p l e R s m args below meth c H locs cells slots Q (F0 m pc ls (.long v :: rest))) : W p l e R s m args below meth c H locs cells slots Q (F0 m pc ls (.long x :: rest)) := h ▸ k
theorem lv_setv {x v : Value} (h : x = v) (k : W p l e R s m args below meth c H locs cells slots Q (F0 m pc ls (v :: rest))) : W p l e R s m args below meth c H locs cells slots Q (F0 m pc ls (x :: rest)) := h ▸ k
/-- newarray, anewarray, aaload over the known array classes -/
theorem cyOne {t0 : Nat} {cA cB : ClassId} {ty : FieldType} (h1 : va_K G CL tys s) (ht : tys[t0]? = some (cA, ty)) (h2 : va_K G CL (tys ++ [(cB, ty)]) s) : cB = cA := by
  have a1 := (h1.2 t0 _ ht).2
  have a2 := (h2.2 tys.length (cB, ty) (by simp)).2
  cases ty with
  | object C =>
    obtain ⟨_, _, _, _, _, x1⟩ := a1
    obtain ⟨_, _, _, _, _, x2⟩ := a2
    exact Option.some.inj (x2.symm.trans x1)
  | _ => exact Option.some.inj (a2.symm.trans a1)
theorem newI (hexec : p.tables.exec = Jvm.exec) (hb : c.code = cc) (hts : ∀ w ∈ BIG, w.before args s = true) (harr : Cond.arrayClass .int ∈ BIG) (hN : KN G cy s) (hP : va_P G CL ws H) (hD : va_D A ws) (hS : va_S A H0 H locs) (hA : ∀ q, H0.size ≤ q → A q) {n : Int32} (N' : Nat) (hn : ¬ n < 0) (hN' : n.toNatClampNeg = N') (hbytes : N' * componentBytes .int ≤ 536870912) (hcells : cells + 1 ≤ R.cells) (hslots : slots + N' ≤ R.slots) (hdg : decode cc pc = .ok (.newarray .int, 2))
    (kk : ∀ (q : Nat) (H1 : Heap), va_P G CL (ws ++ [(q, .inl (cy 0, N', .inl (fun _ => 0)))]) H1 → va_D A (ws ++ [(q, .inl (cy 0, N', .inl (fun _ => 0)))]) → va_S A H0 H1 locs → W p l e R s m args below meth c H1 locs (cells + 1) (slots + N') Q (F0 m (pc + 2) ls (.ref q :: rest))) : W p l e R s m args below meth c H locs cells slots Q (F0 m pc ls (.int n :: rest)) := by
  refine va_newa (atype := .int) (a0 := (N', .inl (fun _ => 0))) hexec hb (hts _ harr) (ty := .int) rfl hN.1 hP hD hS hA (fun _ => rfl) hn hN' hbytes hcells hslots hdg (fun q cA H1 hK2 hP2 hD2 hS2 => ?_)
  have e := cyOne (t0 := 0) hN.1 rfl hK2
  subst e
  exact kk q H1 hP2 hD2 hS2
theorem newJ (hexec : p.tables.exec = Jvm.exec) (hb : c.code = cc) (hts : ∀ w ∈ BIG, w.before args s = true) (harr : Cond.arrayClass .long ∈ BIG) (hN : KN G cy s) (hP : va_P G CL ws H) (hD : va_D A ws) (hS : va_S A H0 H locs) (hA : ∀ q, H0.size ≤ q → A q) {n : Int32} (N' : Nat) (hn : ¬ n < 0) (hN' : n.toNatClampNeg = N') (hbytes : N' * componentBytes .long ≤ 536870912) (hcells : cells + 1 ≤ R.cells) (hslots : slots + N' ≤ R.slots) (hdg : decode cc pc = .ok (.newarray .long, 2))
    (kk : ∀ (q : Nat) (H1 : Heap), va_P G CL (ws ++ [(q, .inl (cy 1, N', .inr (.inl (fun _ => 0))))]) H1 → va_D A (ws ++ [(q, .inl (cy 1, N', .inr (.inl (fun _ => 0))))]) → va_S A H0 H1 locs → W p l e R s m args below meth c H1 locs (cells + 1) (slots + N') Q (F0 m (pc + 2) ls (.ref q :: rest))) : W p l e R s m args below meth c H locs cells slots Q (F0 m pc ls (.int n :: rest)) := by
  refine va_newa (atype := .long) (a0 := (N', .inr (.inl (fun _ => 0)))) hexec hb (hts _ harr) (ty := .long) rfl hN.1 hP hD hS hA (fun _ => rfl) hn hN' hbytes hcells hslots hdg (fun q cA H1 hK2 hP2 hD2 hS2 => ?_)
  have e := cyOne (t0 := 1) hN.1 rfl hK2
  subst e
  exact kk q H1 hP2 hD2 hS2
theorem newB (hexec : p.tables.exec = Jvm.exec) (hb : c.code = cc) (hts : ∀ w ∈ BIG, w.before args s = true) (harr : Cond.arrayClass .byte ∈ BIG) (hN : KN G cy s) (hP : va_P G CL ws H) (hD : va_D A ws) (hS : va_S A H0 H locs) (hA : ∀ q, H0.size ≤ q → A q) {n : Int32} (N' : Nat) (hn : ¬ n < 0) (hN' : n.toNatClampNeg = N') (hbytes : N' * componentBytes .byte ≤ 536870912) (hcells : cells + 1 ≤ R.cells) (hslots : slots + N' ≤ R.slots) (hdg : decode cc pc = .ok (.newarray .byte, 2))
    (kk : ∀ (q : Nat) (H1 : Heap), va_P G CL (ws ++ [(q, .inl (cy 2, N', .inl (fun _ => 0)))]) H1 → va_D A (ws ++ [(q, .inl (cy 2, N', .inl (fun _ => 0)))]) → va_S A H0 H1 locs → W p l e R s m args below meth c H1 locs (cells + 1) (slots + N') Q (F0 m (pc + 2) ls (.ref q :: rest))) : W p l e R s m args below meth c H locs cells slots Q (F0 m pc ls (.int n :: rest)) := by
  refine va_newa (atype := .byte) (a0 := (N', .inl (fun _ => 0))) hexec hb (hts _ harr) (ty := .byte) rfl hN.1 hP hD hS hA (fun _ => rfl) hn hN' hbytes hcells hslots hdg (fun q cA H1 hK2 hP2 hD2 hS2 => ?_)
  have e := cyOne (t0 := 2) hN.1 rfl hK2
  subst e
  exact kk q H1 hP2 hD2 hS2
theorem newM (hexec : p.tables.exec = Jvm.exec) (hb : c.code = cc) (hts : ∀ w ∈ BIG, w.before args s = true) (hown : s.vm.findClass RX6 = some m.cls) (hcl : Cond.classLink RX6 index RX6 ∈ BIG) (hN : KN G cy s) (hP : va_P G CL ws H) (hD : va_D A ws) (hS : va_S A H0 H locs) (hA : ∀ q, H0.size ≤ q → A q) {n : Int32} (N' : Nat) (hn : ¬ n < 0) (hN' : n.toNatClampNeg = N') (hbytes : N' * 4 ≤ 536870912) (hcells : cells + 1 ≤ R.cells) (hslots : slots + N' ≤ R.slots) (hdg : decode cc pc = .ok (.anewarray index, 3))
    (kk : ∀ (q : Nat) (H1 : Heap), va_P G CL (ws ++ [(q, .inl (cy 5, N', .inr (.inr (.inr (.inr (fun _ => none))))))]) H1 → va_D A (ws ++ [(q, .inl (cy 5, N', .inr (.inr (.inr (.inr (fun _ => none))))))]) → va_S A H0 H1 locs → W p l e R s m args below meth c H1 locs (cells + 1) (slots + N') Q (F0 m (pc + 3) ls (.ref q :: rest))) : W p l e R s m args below meth c H locs cells slots Q (F0 m pc ls (.int n :: rest)) := by
  refine va_newq (C := RX6) hexec hb hown (hts _ hcl) hN.2.2.2.2.1 hN.1 hP hD hS hA hn hN' hbytes hcells hslots hdg (fun q cA H1 hK2 hP2 hD2 hS2 => ?_)
  have e := cyOne (t0 := 5) hN.1 rfl hK2
  subst e
  exact kk q H1 hP2 hD2 hS2
theorem va_alda (hexec : p.tables.exec = Jvm.exec) (hb : c.code = cc) {D : va_G} {cl : List vw_C} (hK : va_K D cl tys s) (hP : va_P D cl ws H) (q0 t0 : Nat) {a0 : Nat} {cA : ClassId} {ty : FieldType} {n : Nat} {f : Nat → Option Nat} (ha : ws[q0]? = some (a0, .inl (cA, n, .inr (.inr (.inr (.inr f)))))) (ht : tys[t0]? = some (cA, .array ty)) {i : Int32} (hin : vp_in i n) (hdg : decode cc pc = .ok (.aaload, 1))
    (kk : W p l e R s m args below meth c H locs cells slots Q (F0 m (pc + 1) ls (va_rf (f i.toNatClampNeg) :: rest))) : W p l e R s m args below meth c H locs cells slots Q (F0 m pc ls (.int i :: .ref a0 :: rest)) := by
  have hlt : i.toNatClampNeg < n := Nat.not_le.mp fun q => hin (Or.inr q)
  exact W.aald (v := va_rf (f i.toNatClampNeg)) (ty := .array ty) hexec hb (hP q0 _ ha) ((hK.2 t0 _ ht).1 n (fun j => va_rf (f j))) rfl (fun q => by cases q) (by show ¬ (i < 0 ∨ (arrV _ _ _).slots.size ≤ _); rw [arrV_size]; exact hin) (by show (arrV _ _ _).slots[_]? = _; rw [arrV_read _ _ hlt]) rfl rfl hdg kk
/-- the ends -/
theorem endR {post : Int32 → Prop} {v : Int32} {ty : FieldType} (hexec : p.tables.exec = Jvm.exec) (hb : c.code = cc) (hr : meth.sig.returnType = some ty) (hlocks : meth.locks = false) (hn : narrow ty (.int v) = .int v) (hp : post v) (hdg : decode cc pc = .ok (.ireturn, 1)) : W p l e R s m args below meth c s.heap [] cells slots (MQ below (vp_Si post) args s cells slots (fun _ => False)) (F0 m pc ls [.int v]) :=
  W.zret hexec hb hr hn (fun _ ht _ => ⟨v, rfl, hp, ht⟩) (fun _ h => by cases h) hdg
theorem endRl {post : Int64 → Prop} {v : Int64} (hexec : p.tables.exec = Jvm.exec) (hb : c.code = cc) (hr : meth.sig.returnType = some .long) (hlocks : meth.locks = false) (hp : post v) (hdg : decode cc pc = .ok (.lreturn, 1)) : W p l e R s m args below meth c s.heap [] cells slots (MQ below (vp_Sl post) args s cells slots (fun _ => False)) (F0 m pc ls [.long v]) :=
  W.lret hexec hb hr (fun _ ht _ => ⟨v, rfl, hp, ht⟩) (fun _ h => by cases h) hdg
theorem endW {post : Int32 → va_W → Prop} {v : Int32} {ty : FieldType} {u : va_W} (hexec : p.tables.exec = Jvm.exec) (hb : c.code = cc) (hr : meth.sig.returnType = some ty) (hlocks : meth.locks = false) (hn : narrow ty (.int v) = .int v) (hP : va_P G CL u H) (hD : va_D A u) (hS : va_S A s.heap H locs) (hp : post v u) (hdg : decode cc pc = .ok (.ireturn, 1)) : W p l e R s m args below meth c H locs cells slots (MQ below (Wi G post A) args s cells slots A) (F0 m pc ls [.int v]) :=
  W.zret hexec hb hr hn (fun _ ht _ => ⟨⟨v, u, rfl, hp, by rw [ht]; exact hP, hD⟩, hS.F ht⟩) hS.2.2 hdg
theorem endV {post : va_W → Prop} {u : va_W} (hexec : p.tables.exec = Jvm.exec) (hb : c.code = cc) (hr : meth.sig.returnType = none) (hlocks : meth.locks = false) (hP : va_P G CL u H) (hD : va_D A u) (hS : va_S A s.heap H locs) (hp : post u) (hdg : decode cc pc = .ok (.return_, 1)) : W p l e R s m args below meth c H locs cells slots (MQ below (Wv G post A) args s cells slots A) (F0 m pc ls []) :=
  W.vret hexec hb hr (fun _ ht _ => ⟨⟨u, rfl, hp, by rw [ht]; exact hP, hD⟩, hS.F ht⟩) hS.2.2 hdg
theorem endQ {post : Nat → va_W → Prop} {ra : Nat} {C : String} {u : va_W} (hexec : p.tables.exec = Jvm.exec) (hb : c.code = cc) (hr : meth.sig.returnType = some (.object C)) (hlocks : meth.locks = false) (hP : va_P G CL u H) (hD : va_D A u) (hS : va_S A s.heap H locs) (hp : post ra u) (hdg : decode cc pc = .ok (.areturn, 1)) : W p l e R s m args below meth c H locs cells slots (MQ below (Wq G post A) args s cells slots A) (F0 m pc ls [.ref ra]) :=
  W.aret hexec hb hr (Or.inl ⟨C, rfl⟩) (Or.inr ⟨ra, rfl⟩) (fun _ ht _ => ⟨⟨u, ra, rfl, trivial, ⟨by rw [ht]; exact hP, hD⟩, hp⟩, hS.F ht⟩) hS.2.2 hdg
end BCALL
theorem va_P0 {D : va_G} {cl : List vw_C} {H : Heap} : va_P D cl [] H := fun k q h => by simp at h
theorem va_D0 {A : Nat → Prop} : va_D A [] := ⟨fun i j p q h => by simp at h, fun k q h => by simp at h⟩
theorem in_c {i : Int32} {n : Nat} (h : (decide (i < 0) || decide (n ≤ i.toNatClampNeg)) = false) : vp_in i n := by
  rw [Bool.or_eq_false_iff, decide_eq_false_iff_not, decide_eq_false_iff_not] at h
  exact fun q => q.elim h.1 h.2
/-- v lies from a to b -/
def In (v a b : Int64) : Prop := a ≤ v ∧ v ≤ b
end
