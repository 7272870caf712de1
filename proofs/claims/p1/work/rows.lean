section
-- ===== PART A: goes FIRST, ahead of the names: the tables' words, and 'selects' of the private methods out of them =====
/-- a private method of a class that the tables say can be made, by its rows of tables_1 -/
def lw_okq (q : MethodName × Nat) : Prop := (q.1.cls ≠ "java/lang/invoke/MethodHandle" ∧ q.1.cls ≠ "java/lang/invoke/VarHandle") ∧ Cond.instantiable q.1.cls q.2 ∈ tables_1 ∧ Cond.privateMethod q.1 ∈ tables_1 ∧ Cond.instanceMethod q.1 ∈ tables_1
theorem lw_p0 : lw_okq (⟨"EachBookOnce", "refuse", "(I)I"⟩, 9) := ⟨⟨by decide +kernel, by decide +kernel⟩, List.mem_of_getElem? (i := 16) (by decide +kernel), List.mem_of_getElem? (i := 216) (by decide +kernel), List.mem_of_getElem? (i := 217) (by decide +kernel)⟩
theorem lw_p1 : lw_okq (⟨"EachBookOnce", "rowFit", "(I)I"⟩, 9) := ⟨⟨by decide +kernel, by decide +kernel⟩, List.mem_of_getElem? (i := 16) (by decide +kernel), List.mem_of_getElem? (i := 228) (by decide +kernel), List.mem_of_getElem? (i := 229) (by decide +kernel)⟩
theorem lw_p2 : lw_okq (⟨"EachBookOnce", "copyFit", "(II)I"⟩, 9) := ⟨⟨by decide +kernel, by decide +kernel⟩, List.mem_of_getElem? (i := 16) (by decide +kernel), List.mem_of_getElem? (i := 251) (by decide +kernel), List.mem_of_getElem? (i := 252) (by decide +kernel)⟩
theorem lw_p3 : lw_okq (⟨"EachBookOnce", "hasSpan", "(III)Z"⟩, 9) := ⟨⟨by decide +kernel, by decide +kernel⟩, List.mem_of_getElem? (i := 16) (by decide +kernel), List.mem_of_getElem? (i := 255) (by decide +kernel), List.mem_of_getElem? (i := 256) (by decide +kernel)⟩
theorem lw_p4 : lw_okq (⟨"EachBookOnce", "ruleFit", "(I)I"⟩, 9) := ⟨⟨by decide +kernel, by decide +kernel⟩, List.mem_of_getElem? (i := 16) (by decide +kernel), List.mem_of_getElem? (i := 292) (by decide +kernel), List.mem_of_getElem? (i := 293) (by decide +kernel)⟩
theorem lw_p5 : lw_okq (⟨"EachBookOnce$Tape", "step", "()V"⟩, 7) := ⟨⟨by decide +kernel, by decide +kernel⟩, List.mem_of_getElem? (i := 141) (by decide +kernel), List.mem_of_getElem? (i := 448) (by decide +kernel), List.mem_of_getElem? (i := 449) (by decide +kernel)⟩
theorem lw_p6 : lw_okq (⟨"EachBookOnce$Tape", "sortAt", "(I)I"⟩, 7) := ⟨⟨by decide +kernel, by decide +kernel⟩, List.mem_of_getElem? (i := 141) (by decide +kernel), List.mem_of_getElem? (i := 452) (by decide +kernel), List.mem_of_getElem? (i := 453) (by decide +kernel)⟩
theorem lw_p7 : lw_okq (⟨"EachBookOnce$Tape", "readStatement", "()V"⟩, 7) := ⟨⟨by decide +kernel, by decide +kernel⟩, List.mem_of_getElem? (i := 141) (by decide +kernel), List.mem_of_getElem? (i := 456) (by decide +kernel), List.mem_of_getElem? (i := 457) (by decide +kernel)⟩
theorem lw_p8 : lw_okq (⟨"EachBookOnce$Tape", "isWord", "(Ljava/lang/String;)Z"⟩, 7) := ⟨⟨by decide +kernel, by decide +kernel⟩, List.mem_of_getElem? (i := 141) (by decide +kernel), List.mem_of_getElem? (i := 461) (by decide +kernel), List.mem_of_getElem? (i := 462) (by decide +kernel)⟩
theorem lw_p9 : lw_okq (⟨"EachBookOnce$Tape", "readBook", "()V"⟩, 7) := ⟨⟨by decide +kernel, by decide +kernel⟩, List.mem_of_getElem? (i := 141) (by decide +kernel), List.mem_of_getElem? (i := 513) (by decide +kernel), List.mem_of_getElem? (i := 514) (by decide +kernel)⟩
theorem lw_p10 : lw_okq (⟨"EachBookOnce$Tape", "fail", "()V"⟩, 7) := ⟨⟨by decide +kernel, by decide +kernel⟩, List.mem_of_getElem? (i := 141) (by decide +kernel), List.mem_of_getElem? (i := 517) (by decide +kernel), List.mem_of_getElem? (i := 518) (by decide +kernel)⟩
theorem lw_p11 : lw_okq (⟨"EachBookOnce$Tape", "takeNumber", "(II)I"⟩, 7) := ⟨⟨by decide +kernel, by decide +kernel⟩, List.mem_of_getElem? (i := 141) (by decide +kernel), List.mem_of_getElem? (i := 521) (by decide +kernel), List.mem_of_getElem? (i := 522) (by decide +kernel)⟩
theorem lw_p12 : lw_okq (⟨"EachBookOnce$Tape", "numberThere", "()I"⟩, 7) := ⟨⟨by decide +kernel, by decide +kernel⟩, List.mem_of_getElem? (i := 141) (by decide +kernel), List.mem_of_getElem? (i := 525) (by decide +kernel), List.mem_of_getElem? (i := 526) (by decide +kernel)⟩
theorem lw_p13 : lw_okq (⟨"EachBookOnce$Tape", "passes", "(Ljava/lang/String;)Z"⟩, 7) := ⟨⟨by decide +kernel, by decide +kernel⟩, List.mem_of_getElem? (i := 141) (by decide +kernel), List.mem_of_getElem? (i := 530) (by decide +kernel), List.mem_of_getElem? (i := 531) (by decide +kernel)⟩
theorem lw_p14 : lw_okq (⟨"EachBookOnce$Tape", "readNeed", "()V"⟩, 7) := ⟨⟨by decide +kernel, by decide +kernel⟩, List.mem_of_getElem? (i := 141) (by decide +kernel), List.mem_of_getElem? (i := 536) (by decide +kernel), List.mem_of_getElem? (i := 537) (by decide +kernel)⟩
theorem lw_p15 : lw_okq (⟨"EachBookOnce$Tape", "readOne", "()V"⟩, 7) := ⟨⟨by decide +kernel, by decide +kernel⟩, List.mem_of_getElem? (i := 141) (by decide +kernel), List.mem_of_getElem? (i := 541) (by decide +kernel), List.mem_of_getElem? (i := 542) (by decide +kernel)⟩
def lw_privs_1 : List (MethodName × Nat) := [(⟨"EachBookOnce", "refuse", "(I)I"⟩, 9), (⟨"EachBookOnce", "rowFit", "(I)I"⟩, 9), (⟨"EachBookOnce", "copyFit", "(II)I"⟩, 9), (⟨"EachBookOnce", "hasSpan", "(III)Z"⟩, 9), (⟨"EachBookOnce", "ruleFit", "(I)I"⟩, 9), (⟨"EachBookOnce$Tape", "step", "()V"⟩, 7), (⟨"EachBookOnce$Tape", "sortAt", "(I)I"⟩, 7), (⟨"EachBookOnce$Tape", "readStatement", "()V"⟩, 7), (⟨"EachBookOnce$Tape", "isWord", "(Ljava/lang/String;)Z"⟩, 7), (⟨"EachBookOnce$Tape", "readBook", "()V"⟩, 7), (⟨"EachBookOnce$Tape", "fail", "()V"⟩, 7), (⟨"EachBookOnce$Tape", "takeNumber", "(II)I"⟩, 7), (⟨"EachBookOnce$Tape", "numberThere", "()I"⟩, 7), (⟨"EachBookOnce$Tape", "passes", "(Ljava/lang/String;)Z"⟩, 7), (⟨"EachBookOnce$Tape", "readNeed", "()V"⟩, 7), (⟨"EachBookOnce$Tape", "readOne", "()V"⟩, 7)]
theorem lw_r1 : ∀ q ∈ lw_privs_1, lw_okq q := List.forall_mem_cons.mpr ⟨lw_p0, List.forall_mem_cons.mpr ⟨lw_p1, List.forall_mem_cons.mpr ⟨lw_p2, List.forall_mem_cons.mpr ⟨lw_p3, List.forall_mem_cons.mpr ⟨lw_p4, List.forall_mem_cons.mpr ⟨lw_p5, List.forall_mem_cons.mpr ⟨lw_p6, List.forall_mem_cons.mpr ⟨lw_p7, List.forall_mem_cons.mpr ⟨lw_p8, List.forall_mem_cons.mpr ⟨lw_p9, List.forall_mem_cons.mpr ⟨lw_p10, List.forall_mem_cons.mpr ⟨lw_p11, List.forall_mem_cons.mpr ⟨lw_p12, List.forall_mem_cons.mpr ⟨lw_p13, List.forall_mem_cons.mpr ⟨lw_p14, List.forall_mem_cons.mpr ⟨lw_p15, fun _ h => absurd h List.not_mem_nil⟩⟩⟩⟩⟩⟩⟩⟩⟩⟩⟩⟩⟩⟩⟩⟩
theorem lw_p16 : lw_okq (⟨"EachBookOnce$Tape", "readKnows", "()V"⟩, 7) := ⟨⟨by decide +kernel, by decide +kernel⟩, List.mem_of_getElem? (i := 141) (by decide +kernel), List.mem_of_getElem? (i := 550) (by decide +kernel), List.mem_of_getElem? (i := 551) (by decide +kernel)⟩
theorem lw_p17 : lw_okq (⟨"EachBookOnce$Tape", "readWhite", "()V"⟩, 7) := ⟨⟨by decide +kernel, by decide +kernel⟩, List.mem_of_getElem? (i := 141) (by decide +kernel), List.mem_of_getElem? (i := 556) (by decide +kernel), List.mem_of_getElem? (i := 557) (by decide +kernel)⟩
theorem lw_p18 : lw_okq (⟨"EachBookOnce", "isPair", "(II)Z"⟩, 9) := ⟨⟨by decide +kernel, by decide +kernel⟩, List.mem_of_getElem? (i := 16) (by decide +kernel), List.mem_of_getElem? (i := 583) (by decide +kernel), List.mem_of_getElem? (i := 584) (by decide +kernel)⟩
theorem lw_p19 : lw_okq (⟨"EachBookOnce", "readFit", "(II)I"⟩, 9) := ⟨⟨by decide +kernel, by decide +kernel⟩, List.mem_of_getElem? (i := 16) (by decide +kernel), List.mem_of_getElem? (i := 603) (by decide +kernel), List.mem_of_getElem? (i := 604) (by decide +kernel)⟩
theorem lw_p20 : lw_okq (⟨"EachBookOnce$Town", "forget", "(I)V"⟩, 13) := ⟨⟨by decide +kernel, by decide +kernel⟩, List.mem_of_getElem? (i := 24) (by decide +kernel), List.mem_of_getElem? (i := 658) (by decide +kernel), List.mem_of_getElem? (i := 659) (by decide +kernel)⟩
theorem lw_p21 : lw_okq (⟨"EachBookOnce", "toldFit", "(II)I"⟩, 9) := ⟨⟨by decide +kernel, by decide +kernel⟩, List.mem_of_getElem? (i := 16) (by decide +kernel), List.mem_of_getElem? (i := 785) (by decide +kernel), List.mem_of_getElem? (i := 786) (by decide +kernel)⟩
theorem lw_p22 : lw_okq (⟨"EachBookOnce", "firstWrong", "(II)I"⟩, 9) := ⟨⟨by decide +kernel, by decide +kernel⟩, List.mem_of_getElem? (i := 16) (by decide +kernel), List.mem_of_getElem? (i := 790) (by decide +kernel), List.mem_of_getElem? (i := 791) (by decide +kernel)⟩
theorem lw_p23 : lw_okq (⟨"EachBookOnce$Town", "drawBelow20", "()I"⟩, 13) := ⟨⟨by decide +kernel, by decide +kernel⟩, List.mem_of_getElem? (i := 24) (by decide +kernel), List.mem_of_getElem? (i := 807) (by decide +kernel), List.mem_of_getElem? (i := 808) (by decide +kernel)⟩
theorem lw_p24 : lw_okq (⟨"EachBookOnceModel", "refuse", "(I)I"⟩, 35) := ⟨⟨by decide +kernel, by decide +kernel⟩, List.mem_of_getElem? (i := 839) (by decide +kernel), List.mem_of_getElem? (i := 967) (by decide +kernel), List.mem_of_getElem? (i := 968) (by decide +kernel)⟩
theorem lw_p25 : lw_okq (⟨"EachBookOnceModel", "noRow", "(I)I"⟩, 35) := ⟨⟨by decide +kernel, by decide +kernel⟩, List.mem_of_getElem? (i := 839) (by decide +kernel), List.mem_of_getElem? (i := 975) (by decide +kernel), List.mem_of_getElem? (i := 976) (by decide +kernel)⟩
theorem lw_p26 : lw_okq (⟨"EachBookOnceModel", "fresh", "()LEachBookOnceModel;"⟩, 35) := ⟨⟨by decide +kernel, by decide +kernel⟩, List.mem_of_getElem? (i := 839) (by decide +kernel), List.mem_of_getElem? (i := 1007) (by decide +kernel), List.mem_of_getElem? (i := 1008) (by decide +kernel)⟩
theorem lw_p27 : lw_okq (⟨"EachBookOnceModel", "takeFrom", "(LEachBookOnceModel;)V"⟩, 35) := ⟨⟨by decide +kernel, by decide +kernel⟩, List.mem_of_getElem? (i := 839) (by decide +kernel), List.mem_of_getElem? (i := 1012) (by decide +kernel), List.mem_of_getElem? (i := 1013) (by decide +kernel)⟩
theorem lw_p28 : lw_okq (⟨"EachBookOnceModel", "does", "(II)I"⟩, 35) := ⟨⟨by decide +kernel, by decide +kernel⟩, List.mem_of_getElem? (i := 839) (by decide +kernel), List.mem_of_getElem? (i := 1019) (by decide +kernel), List.mem_of_getElem? (i := 1020) (by decide +kernel)⟩
theorem lw_p29 : lw_okq (⟨"EachBookOnceModel", "readMost", "(IZ)I"⟩, 35) := ⟨⟨by decide +kernel, by decide +kernel⟩, List.mem_of_getElem? (i := 839) (by decide +kernel), List.mem_of_getElem? (i := 1023) (by decide +kernel), List.mem_of_getElem? (i := 1024) (by decide +kernel)⟩
theorem lw_p30 : lw_okq (⟨"EachBookOnceModel", "thereMany", "()I"⟩, 35) := ⟨⟨by decide +kernel, by decide +kernel⟩, List.mem_of_getElem? (i := 839) (by decide +kernel), List.mem_of_getElem? (i := 1027) (by decide +kernel), List.mem_of_getElem? (i := 1028) (by decide +kernel)⟩
theorem lw_p31 : lw_okq (⟨"EachBookOnceModel", "isThere", "(I)Z"⟩, 35) := ⟨⟨by decide +kernel, by decide +kernel⟩, List.mem_of_getElem? (i := 839) (by decide +kernel), List.mem_of_getElem? (i := 1031) (by decide +kernel), List.mem_of_getElem? (i := 1032) (by decide +kernel)⟩
def lw_privs_2 : List (MethodName × Nat) := [(⟨"EachBookOnce$Tape", "readKnows", "()V"⟩, 7), (⟨"EachBookOnce$Tape", "readWhite", "()V"⟩, 7), (⟨"EachBookOnce", "isPair", "(II)Z"⟩, 9), (⟨"EachBookOnce", "readFit", "(II)I"⟩, 9), (⟨"EachBookOnce$Town", "forget", "(I)V"⟩, 13), (⟨"EachBookOnce", "toldFit", "(II)I"⟩, 9), (⟨"EachBookOnce", "firstWrong", "(II)I"⟩, 9), (⟨"EachBookOnce$Town", "drawBelow20", "()I"⟩, 13), (⟨"EachBookOnceModel", "refuse", "(I)I"⟩, 35), (⟨"EachBookOnceModel", "noRow", "(I)I"⟩, 35), (⟨"EachBookOnceModel", "fresh", "()LEachBookOnceModel;"⟩, 35), (⟨"EachBookOnceModel", "takeFrom", "(LEachBookOnceModel;)V"⟩, 35), (⟨"EachBookOnceModel", "does", "(II)I"⟩, 35), (⟨"EachBookOnceModel", "readMost", "(IZ)I"⟩, 35), (⟨"EachBookOnceModel", "thereMany", "()I"⟩, 35), (⟨"EachBookOnceModel", "isThere", "(I)Z"⟩, 35)]
theorem lw_r2 : ∀ q ∈ lw_privs_2, lw_okq q := List.forall_mem_cons.mpr ⟨lw_p16, List.forall_mem_cons.mpr ⟨lw_p17, List.forall_mem_cons.mpr ⟨lw_p18, List.forall_mem_cons.mpr ⟨lw_p19, List.forall_mem_cons.mpr ⟨lw_p20, List.forall_mem_cons.mpr ⟨lw_p21, List.forall_mem_cons.mpr ⟨lw_p22, List.forall_mem_cons.mpr ⟨lw_p23, List.forall_mem_cons.mpr ⟨lw_p24, List.forall_mem_cons.mpr ⟨lw_p25, List.forall_mem_cons.mpr ⟨lw_p26, List.forall_mem_cons.mpr ⟨lw_p27, List.forall_mem_cons.mpr ⟨lw_p28, List.forall_mem_cons.mpr ⟨lw_p29, List.forall_mem_cons.mpr ⟨lw_p30, List.forall_mem_cons.mpr ⟨lw_p31, fun _ h => absurd h List.not_mem_nil⟩⟩⟩⟩⟩⟩⟩⟩⟩⟩⟩⟩⟩⟩⟩⟩
theorem lw_p32 : lw_okq (⟨"EachBookOnceModel", "isWhite", "(I)Z"⟩, 35) := ⟨⟨by decide +kernel, by decide +kernel⟩, List.mem_of_getElem? (i := 839) (by decide +kernel), List.mem_of_getElem? (i := 1035) (by decide +kernel), List.mem_of_getElem? (i := 1036) (by decide +kernel)⟩
theorem lw_p33 : lw_okq (⟨"EachBookOnceModel", "readerOf", "(I)I"⟩, 35) := ⟨⟨by decide +kernel, by decide +kernel⟩, List.mem_of_getElem? (i := 839) (by decide +kernel), List.mem_of_getElem? (i := 1039) (by decide +kernel), List.mem_of_getElem? (i := 1040) (by decide +kernel)⟩
theorem lw_p34 : lw_okq (⟨"EachBookOnceModel", "wouldKnow", "(II)I"⟩, 35) := ⟨⟨by decide +kernel, by decide +kernel⟩, List.mem_of_getElem? (i := 839) (by decide +kernel), List.mem_of_getElem? (i := 1043) (by decide +kernel), List.mem_of_getElem? (i := 1044) (by decide +kernel)⟩
theorem lw_p35 : lw_okq (⟨"EachBookOnceModel", "byGround", "(III)I"⟩, 35) := ⟨⟨by decide +kernel, by decide +kernel⟩, List.mem_of_getElem? (i := 839) (by decide +kernel), List.mem_of_getElem? (i := 1047) (by decide +kernel), List.mem_of_getElem? (i := 1048) (by decide +kernel)⟩
theorem lw_p36 : lw_okq (⟨"EachBookOnceModel", "groundOf", "(II)I"⟩, 35) := ⟨⟨by decide +kernel, by decide +kernel⟩, List.mem_of_getElem? (i := 839) (by decide +kernel), List.mem_of_getElem? (i := 1051) (by decide +kernel), List.mem_of_getElem? (i := 1052) (by decide +kernel)⟩
theorem lw_p37 : lw_okq (⟨"EachBookOnceModel", "readsTo", "(III)I"⟩, 35) := ⟨⟨by decide +kernel, by decide +kernel⟩, List.mem_of_getElem? (i := 839) (by decide +kernel), List.mem_of_getElem? (i := 1055) (by decide +kernel), List.mem_of_getElem? (i := 1056) (by decide +kernel)⟩
theorem lw_p38 : lw_okq (⟨"EachBookOnceModel", "reads", "(II)V"⟩, 35) := ⟨⟨by decide +kernel, by decide +kernel⟩, List.mem_of_getElem? (i := 839) (by decide +kernel), List.mem_of_getElem? (i := 1059) (by decide +kernel), List.mem_of_getElem? (i := 1060) (by decide +kernel)⟩
theorem lw_p39 : lw_okq (⟨"EachBookOnceModel", "chain", "()V"⟩, 35) := ⟨⟨by decide +kernel, by decide +kernel⟩, List.mem_of_getElem? (i := 839) (by decide +kernel), List.mem_of_getElem? (i := 1063) (by decide +kernel), List.mem_of_getElem? (i := 1064) (by decide +kernel)⟩
theorem lw_p40 : lw_okq (⟨"EachBookOnceModel", "youngestBut", "(I)I"⟩, 35) := ⟨⟨by decide +kernel, by decide +kernel⟩, List.mem_of_getElem? (i := 839) (by decide +kernel), List.mem_of_getElem? (i := 1067) (by decide +kernel), List.mem_of_getElem? (i := 1068) (by decide +kernel)⟩
theorem lw_p41 : lw_okq (⟨"EachBookOnceModel", "moreBy", "(III)I"⟩, 35) := ⟨⟨by decide +kernel, by decide +kernel⟩, List.mem_of_getElem? (i := 839) (by decide +kernel), List.mem_of_getElem? (i := 1071) (by decide +kernel), List.mem_of_getElem? (i := 1072) (by decide +kernel)⟩
theorem lw_p42 : lw_okq (⟨"EachBookOnceModel", "valueNow", "()I"⟩, 35) := ⟨⟨by decide +kernel, by decide +kernel⟩, List.mem_of_getElem? (i := 839) (by decide +kernel), List.mem_of_getElem? (i := 1075) (by decide +kernel), List.mem_of_getElem? (i := 1076) (by decide +kernel)⟩
theorem lw_p43 : lw_okq (⟨"EachBookOnceModel", "valueOf", "(I)I"⟩, 35) := ⟨⟨by decide +kernel, by decide +kernel⟩, List.mem_of_getElem? (i := 839) (by decide +kernel), List.mem_of_getElem? (i := 1079) (by decide +kernel), List.mem_of_getElem? (i := 1080) (by decide +kernel)⟩
theorem lw_p44 : lw_okq (⟨"EachBookOnceModel", "greatest", "(II)I"⟩, 35) := ⟨⟨by decide +kernel, by decide +kernel⟩, List.mem_of_getElem? (i := 839) (by decide +kernel), List.mem_of_getElem? (i := 1083) (by decide +kernel), List.mem_of_getElem? (i := 1084) (by decide +kernel)⟩
theorem lw_p45 : lw_okq (⟨"EachBookOnceModel", "newBook", "(I)V"⟩, 35) := ⟨⟨by decide +kernel, by decide +kernel⟩, List.mem_of_getElem? (i := 839) (by decide +kernel), List.mem_of_getElem? (i := 1091) (by decide +kernel), List.mem_of_getElem? (i := 1092) (by decide +kernel)⟩
theorem lw_p46 : lw_okq (⟨"EachBookOnceModel", "add", "(JJJJ)I"⟩, 35) := ⟨⟨by decide +kernel, by decide +kernel⟩, List.mem_of_getElem? (i := 839) (by decide +kernel), List.mem_of_getElem? (i := 1099) (by decide +kernel), List.mem_of_getElem? (i := 1100) (by decide +kernel)⟩
theorem lw_p47 : lw_okq (⟨"EachBookOnceModel", "newOne", "()V"⟩, 35) := ⟨⟨by decide +kernel, by decide +kernel⟩, List.mem_of_getElem? (i := 839) (by decide +kernel), List.mem_of_getElem? (i := 1105) (by decide +kernel), List.mem_of_getElem? (i := 1106) (by decide +kernel)⟩
def lw_privs_3 : List (MethodName × Nat) := [(⟨"EachBookOnceModel", "isWhite", "(I)Z"⟩, 35), (⟨"EachBookOnceModel", "readerOf", "(I)I"⟩, 35), (⟨"EachBookOnceModel", "wouldKnow", "(II)I"⟩, 35), (⟨"EachBookOnceModel", "byGround", "(III)I"⟩, 35), (⟨"EachBookOnceModel", "groundOf", "(II)I"⟩, 35), (⟨"EachBookOnceModel", "readsTo", "(III)I"⟩, 35), (⟨"EachBookOnceModel", "reads", "(II)V"⟩, 35), (⟨"EachBookOnceModel", "chain", "()V"⟩, 35), (⟨"EachBookOnceModel", "youngestBut", "(I)I"⟩, 35), (⟨"EachBookOnceModel", "moreBy", "(III)I"⟩, 35), (⟨"EachBookOnceModel", "valueNow", "()I"⟩, 35), (⟨"EachBookOnceModel", "valueOf", "(I)I"⟩, 35), (⟨"EachBookOnceModel", "greatest", "(II)I"⟩, 35), (⟨"EachBookOnceModel", "newBook", "(I)V"⟩, 35), (⟨"EachBookOnceModel", "add", "(JJJJ)I"⟩, 35), (⟨"EachBookOnceModel", "newOne", "()V"⟩, 35)]
theorem lw_r3 : ∀ q ∈ lw_privs_3, lw_okq q := List.forall_mem_cons.mpr ⟨lw_p32, List.forall_mem_cons.mpr ⟨lw_p33, List.forall_mem_cons.mpr ⟨lw_p34, List.forall_mem_cons.mpr ⟨lw_p35, List.forall_mem_cons.mpr ⟨lw_p36, List.forall_mem_cons.mpr ⟨lw_p37, List.forall_mem_cons.mpr ⟨lw_p38, List.forall_mem_cons.mpr ⟨lw_p39, List.forall_mem_cons.mpr ⟨lw_p40, List.forall_mem_cons.mpr ⟨lw_p41, List.forall_mem_cons.mpr ⟨lw_p42, List.forall_mem_cons.mpr ⟨lw_p43, List.forall_mem_cons.mpr ⟨lw_p44, List.forall_mem_cons.mpr ⟨lw_p45, List.forall_mem_cons.mpr ⟨lw_p46, List.forall_mem_cons.mpr ⟨lw_p47, fun _ h => absurd h List.not_mem_nil⟩⟩⟩⟩⟩⟩⟩⟩⟩⟩⟩⟩⟩⟩⟩⟩
theorem lw_p48 : lw_okq (⟨"EachBookOnceModel", "readAll", "()Z"⟩, 35) := ⟨⟨by decide +kernel, by decide +kernel⟩, List.mem_of_getElem? (i := 839) (by decide +kernel), List.mem_of_getElem? (i := 1125) (by decide +kernel), List.mem_of_getElem? (i := 1126) (by decide +kernel)⟩
theorem lw_p49 : lw_okq (⟨"EachBookOnceModel", "look", "()V"⟩, 35) := ⟨⟨by decide +kernel, by decide +kernel⟩, List.mem_of_getElem? (i := 839) (by decide +kernel), List.mem_of_getElem? (i := 1129) (by decide +kernel), List.mem_of_getElem? (i := 1130) (by decide +kernel)⟩
theorem lw_p50 : lw_okq (⟨"EachBookOnceModel", "statement", "()Z"⟩, 35) := ⟨⟨by decide +kernel, by decide +kernel⟩, List.mem_of_getElem? (i := 839) (by decide +kernel), List.mem_of_getElem? (i := 1141) (by decide +kernel), List.mem_of_getElem? (i := 1142) (by decide +kernel)⟩
theorem lw_p51 : lw_okq (⟨"EachBookOnceModel", "isWord", "(Ljava/lang/String;)Z"⟩, 35) := ⟨⟨by decide +kernel, by decide +kernel⟩, List.mem_of_getElem? (i := 839) (by decide +kernel), List.mem_of_getElem? (i := 1146) (by decide +kernel), List.mem_of_getElem? (i := 1147) (by decide +kernel)⟩
theorem lw_p52 : lw_okq (⟨"EachBookOnceModel", "tells", "(Ljava/lang/String;[IIII)Z"⟩, 35) := ⟨⟨by decide +kernel, by decide +kernel⟩, List.mem_of_getElem? (i := 839) (by decide +kernel), List.mem_of_getElem? (i := 1152) (by decide +kernel), List.mem_of_getElem? (i := 1153) (by decide +kernel)⟩
theorem lw_p53 : lw_okq (⟨"EachBookOnceModel", "wrong", "()Z"⟩, 35) := ⟨⟨by decide +kernel, by decide +kernel⟩, List.mem_of_getElem? (i := 839) (by decide +kernel), List.mem_of_getElem? (i := 1156) (by decide +kernel), List.mem_of_getElem? (i := 1157) (by decide +kernel)⟩
theorem lw_p54 : lw_okq (⟨"EachBookOnceModel", "number", "([IIII)Z"⟩, 35) := ⟨⟨by decide +kernel, by decide +kernel⟩, List.mem_of_getElem? (i := 839) (by decide +kernel), List.mem_of_getElem? (i := 1160) (by decide +kernel), List.mem_of_getElem? (i := 1161) (by decide +kernel)⟩
theorem lw_p55 : lw_okq (⟨"EachBookOnceModel", "perhaps", "(Ljava/lang/String;[IIII)Z"⟩, 35) := ⟨⟨by decide +kernel, by decide +kernel⟩, List.mem_of_getElem? (i := 839) (by decide +kernel), List.mem_of_getElem? (i := 1165) (by decide +kernel), List.mem_of_getElem? (i := 1166) (by decide +kernel)⟩
theorem lw_p56 : lw_okq (⟨"EachBookOnceModel", "isBook", "(J)Z"⟩, 35) := ⟨⟨by decide +kernel, by decide +kernel⟩, List.mem_of_getElem? (i := 839) (by decide +kernel), List.mem_of_getElem? (i := 1180) (by decide +kernel), List.mem_of_getElem? (i := 1181) (by decide +kernel)⟩
theorem lw_p57 : lw_okq (⟨"EachBookOnceModel", "isOne", "(J)Z"⟩, 35) := ⟨⟨by decide +kernel, by decide +kernel⟩, List.mem_of_getElem? (i := 839) (by decide +kernel), List.mem_of_getElem? (i := 1188) (by decide +kernel), List.mem_of_getElem? (i := 1189) (by decide +kernel)⟩
theorem lw_p58 : lw_okq (⟨"EachBookOnceModel", "noReading", "(II)I"⟩, 35) := ⟨⟨by decide +kernel, by decide +kernel⟩, List.mem_of_getElem? (i := 839) (by decide +kernel), List.mem_of_getElem? (i := 1213) (by decide +kernel), List.mem_of_getElem? (i := 1214) (by decide +kernel)⟩
theorem lw_p59 : lw_okq (⟨"EachBookOnceModel", "end", "()I"⟩, 35) := ⟨⟨by decide +kernel, by decide +kernel⟩, List.mem_of_getElem? (i := 839) (by decide +kernel), List.mem_of_getElem? (i := 1261) (by decide +kernel), List.mem_of_getElem? (i := 1262) (by decide +kernel)⟩
theorem lw_p60 : lw_okq (⟨"EachBookOnceModel", "noRule", "(I)I"⟩, 35) := ⟨⟨by decide +kernel, by decide +kernel⟩, List.mem_of_getElem? (i := 839) (by decide +kernel), List.mem_of_getElem? (i := 1271) (by decide +kernel), List.mem_of_getElem? (i := 1272) (by decide +kernel)⟩
theorem lw_p61 : lw_okq (⟨"EachBookOnceModel", "sumOf", "(II)I"⟩, 35) := ⟨⟨by decide +kernel, by decide +kernel⟩, List.mem_of_getElem? (i := 839) (by decide +kernel), List.mem_of_getElem? (i := 1275) (by decide +kernel), List.mem_of_getElem? (i := 1276) (by decide +kernel)⟩
theorem lw_p62 : lw_okq (⟨"EachBookOnceModel", "goes", "(III)I"⟩, 35) := ⟨⟨by decide +kernel, by decide +kernel⟩, List.mem_of_getElem? (i := 839) (by decide +kernel), List.mem_of_getElem? (i := 1279) (by decide +kernel), List.mem_of_getElem? (i := 1280) (by decide +kernel)⟩
theorem lw_p63 : lw_okq (⟨"EachBookOnceModel", "whiteMany", "()I"⟩, 35) := ⟨⟨by decide +kernel, by decide +kernel⟩, List.mem_of_getElem? (i := 839) (by decide +kernel), List.mem_of_getElem? (i := 1283) (by decide +kernel), List.mem_of_getElem? (i := 1284) (by decide +kernel)⟩
def lw_privs_4 : List (MethodName × Nat) := [(⟨"EachBookOnceModel", "readAll", "()Z"⟩, 35), (⟨"EachBookOnceModel", "look", "()V"⟩, 35), (⟨"EachBookOnceModel", "statement", "()Z"⟩, 35), (⟨"EachBookOnceModel", "isWord", "(Ljava/lang/String;)Z"⟩, 35), (⟨"EachBookOnceModel", "tells", "(Ljava/lang/String;[IIII)Z"⟩, 35), (⟨"EachBookOnceModel", "wrong", "()Z"⟩, 35), (⟨"EachBookOnceModel", "number", "([IIII)Z"⟩, 35), (⟨"EachBookOnceModel", "perhaps", "(Ljava/lang/String;[IIII)Z"⟩, 35), (⟨"EachBookOnceModel", "isBook", "(J)Z"⟩, 35), (⟨"EachBookOnceModel", "isOne", "(J)Z"⟩, 35), (⟨"EachBookOnceModel", "noReading", "(II)I"⟩, 35), (⟨"EachBookOnceModel", "end", "()I"⟩, 35), (⟨"EachBookOnceModel", "noRule", "(I)I"⟩, 35), (⟨"EachBookOnceModel", "sumOf", "(II)I"⟩, 35), (⟨"EachBookOnceModel", "goes", "(III)I"⟩, 35), (⟨"EachBookOnceModel", "whiteMany", "()I"⟩, 35)]
theorem lw_r4 : ∀ q ∈ lw_privs_4, lw_okq q := List.forall_mem_cons.mpr ⟨lw_p48, List.forall_mem_cons.mpr ⟨lw_p49, List.forall_mem_cons.mpr ⟨lw_p50, List.forall_mem_cons.mpr ⟨lw_p51, List.forall_mem_cons.mpr ⟨lw_p52, List.forall_mem_cons.mpr ⟨lw_p53, List.forall_mem_cons.mpr ⟨lw_p54, List.forall_mem_cons.mpr ⟨lw_p55, List.forall_mem_cons.mpr ⟨lw_p56, List.forall_mem_cons.mpr ⟨lw_p57, List.forall_mem_cons.mpr ⟨lw_p58, List.forall_mem_cons.mpr ⟨lw_p59, List.forall_mem_cons.mpr ⟨lw_p60, List.forall_mem_cons.mpr ⟨lw_p61, List.forall_mem_cons.mpr ⟨lw_p62, List.forall_mem_cons.mpr ⟨lw_p63, fun _ h => absurd h List.not_mem_nil⟩⟩⟩⟩⟩⟩⟩⟩⟩⟩⟩⟩⟩⟩⟩⟩
theorem lw_p64 : lw_okq (⟨"EachBookOnceModel", "findWho", "(II)I"⟩, 35) := ⟨⟨by decide +kernel, by decide +kernel⟩, List.mem_of_getElem? (i := 839) (by decide +kernel), List.mem_of_getElem? (i := 1300) (by decide +kernel), List.mem_of_getElem? (i := 1301) (by decide +kernel)⟩
theorem lw_p65 : lw_okq (⟨"EachBookOnceModel", "rowsFrom", "(LEachBookOnceModel;IIII)V"⟩, 35) := ⟨⟨by decide +kernel, by decide +kernel⟩, List.mem_of_getElem? (i := 839) (by decide +kernel), List.mem_of_getElem? (i := 1314) (by decide +kernel), List.mem_of_getElem? (i := 1315) (by decide +kernel)⟩
theorem lw_p66 : lw_okq (⟨"EachBookOnceModel", "lostBy", "(II)I"⟩, 35) := ⟨⟨by decide +kernel, by decide +kernel⟩, List.mem_of_getElem? (i := 839) (by decide +kernel), List.mem_of_getElem? (i := 1337) (by decide +kernel), List.mem_of_getElem? (i := 1338) (by decide +kernel)⟩
theorem lw_p67 : lw_okq (⟨"EachBookOnceModel", "noTold", "(II)I"⟩, 35) := ⟨⟨by decide +kernel, by decide +kernel⟩, List.mem_of_getElem? (i := 839) (by decide +kernel), List.mem_of_getElem? (i := 1352) (by decide +kernel), List.mem_of_getElem? (i := 1353) (by decide +kernel)⟩
theorem lw_p68 : lw_okq (⟨"EachBookOnceModel", "wrongAt", "(II)I"⟩, 35) := ⟨⟨by decide +kernel, by decide +kernel⟩, List.mem_of_getElem? (i := 839) (by decide +kernel), List.mem_of_getElem? (i := 1357) (by decide +kernel), List.mem_of_getElem? (i := 1358) (by decide +kernel)⟩
theorem lw_p69 : lw_okq (⟨"EachBookOnceModel", "draw", "(I)I"⟩, 35) := ⟨⟨by decide +kernel, by decide +kernel⟩, List.mem_of_getElem? (i := 839) (by decide +kernel), List.mem_of_getElem? (i := 1370) (by decide +kernel), List.mem_of_getElem? (i := 1371) (by decide +kernel)⟩
def lw_privs_5 : List (MethodName × Nat) := [(⟨"EachBookOnceModel", "findWho", "(II)I"⟩, 35), (⟨"EachBookOnceModel", "rowsFrom", "(LEachBookOnceModel;IIII)V"⟩, 35), (⟨"EachBookOnceModel", "lostBy", "(II)I"⟩, 35), (⟨"EachBookOnceModel", "noTold", "(II)I"⟩, 35), (⟨"EachBookOnceModel", "wrongAt", "(II)I"⟩, 35), (⟨"EachBookOnceModel", "draw", "(I)I"⟩, 35)]
theorem lw_r5 : ∀ q ∈ lw_privs_5, lw_okq q := List.forall_mem_cons.mpr ⟨lw_p64, List.forall_mem_cons.mpr ⟨lw_p65, List.forall_mem_cons.mpr ⟨lw_p66, List.forall_mem_cons.mpr ⟨lw_p67, List.forall_mem_cons.mpr ⟨lw_p68, List.forall_mem_cons.mpr ⟨lw_p69, fun _ h => absurd h List.not_mem_nil⟩⟩⟩⟩⟩⟩
def lw_privs : List (MethodName × Nat) := lw_privs_1 ++ (lw_privs_2 ++ (lw_privs_3 ++ (lw_privs_4 ++ (lw_privs_5))))
def lw_tbl : List Cond := k2_sels lw_privs ++ tables_1
theorem lw_privs_ok : ∀ q ∈ lw_privs, lw_okq q := by
  show ∀ q ∈ lw_privs_1 ++ (lw_privs_2 ++ (lw_privs_3 ++ (lw_privs_4 ++ (lw_privs_5)))), lw_okq q
  exact List.forall_mem_append.mpr ⟨lw_r1, List.forall_mem_append.mpr ⟨lw_r2, List.forall_mem_append.mpr ⟨lw_r3, List.forall_mem_append.mpr ⟨lw_r4, lw_r5⟩⟩⟩⟩
-- ===== end of PART A; then your names; then what follows =====
end
section
def RX0 : String := "EachBookOnce$Plans"
def TX0 : u_T := fun k => match k with
  | 0 => ("EachBookOnce$Plans", "trial", "LEachBookOnce$Town;", true)
  | 1 => ("EachBookOnce$Plans", "second", "LEachBookOnce$Town;", true)
  | 2 => ("EachBookOnce$Plans", "lastValue", "I", false)
  | _ => ("EachBookOnce$Plans", "bestSum", "I", false)
def tyX0 : Nat → FieldType := fun k => match k with
  | 0 => .object "EachBookOnce$Town"
  | 1 => .object "EachBookOnce$Town"
  | 2 => .int
  | _ => .int
abbrev wsX00 : List Cond := u_ws RX0 TX0 4
theorem nmX0 : ∀ a, a < 4 → ∀ b, b < 4 → a ≠ b → (TX0 a).2.1 ≠ (TX0 b).2.1 := by decide +kernel
theorem tyX0_ok : ∀ k, k < 4 → parseFieldDescriptor (TX0 k).2.2.1 = some (tyX0 k) := by decide +kernel
abbrev cX0_init : ByteArray := prog_2_method_1_code
def yX0_init : MethodName := ⟨RX0, "<init>", "()V"⟩
abbrev cX0_trialOf : ByteArray := prog_2_method_2_code
def yX0_trialOf : MethodName := ⟨RX0, "trialOf", "(LEachBookOnce$Town;)LEachBookOnce$Town;"⟩
abbrev cX0_sumOfRun : ByteArray := prog_2_method_3_code
def yX0_sumOfRun : MethodName := ⟨RX0, "sumOfRun", "(LEachBookOnce$Town;III)I"⟩
abbrev cX0_sumOfRest : ByteArray := prog_2_method_4_code
def yX0_sumOfRest : MethodName := ⟨RX0, "sumOfRest", "(LEachBookOnce$Town;I)I"⟩
abbrev cX0_bestWho : ByteArray := prog_2_method_5_code
def yX0_bestWho : MethodName := ⟨RX0, "bestWho", "(LEachBookOnce$Town;II)I"⟩
abbrev cX0_findKeeping : ByteArray := prog_2_method_6_code
def yX0_findKeeping : MethodName := ⟨RX0, "findKeeping", "(LEachBookOnce$Town;II)Z"⟩
abbrev cX0_worthByRising : ByteArray := prog_2_method_7_code
def yX0_worthByRising : MethodName := ⟨RX0, "worthByRising", "(LEachBookOnce$Town;I)I"⟩
def RX1 : String := "EachBookOnce$Rules"
def TX1 : u_T := fun k => match k with
  | _ => ("", "", "", false)
def tyX1 : Nat → FieldType := fun k => match k with
  | _ => .int
abbrev wsX10 : List Cond := u_ws RX1 TX1 0
theorem nmX1 : ∀ a, a < 0 → ∀ b, b < 0 → a ≠ b → (TX1 a).2.1 ≠ (TX1 b).2.1 := by decide +kernel
theorem tyX1_ok : ∀ k, k < 0 → parseFieldDescriptor (TX1 k).2.2.1 = some (tyX1 k) := by decide +kernel
abbrev cX1_isUnder : ByteArray := prog_3_method_2_code
def yX1_isUnder : MethodName := ⟨RX1, "isUnder", "(II)Z"⟩
abbrev cX1_act : ByteArray := prog_3_method_3_code
def yX1_act : MethodName := ⟨RX1, "act", "(LEachBookOnce$Town;II)I"⟩
abbrev cX1_readDearest : ByteArray := prog_3_method_4_code
def yX1_readDearest : MethodName := ⟨RX1, "readDearest", "(LEachBookOnce$Town;IZ)I"⟩
abbrev cX1_tellChain : ByteArray := prog_3_method_5_code
def yX1_tellChain : MethodName := ⟨RX1, "tellChain", "(LEachBookOnce$Town;)V"⟩
def RX2 : String := "EachBookOnce$Shelves"
def TX2 : u_T := fun k => match k with
  | 0 => ("EachBookOnce$Shelves", "holding", "[I", true)
  | 1 => ("EachBookOnce$Shelves", "size", "[I", true)
  | 2 => ("EachBookOnce$Shelves", "amount", "[I", true)
  | _ => ("EachBookOnce$Shelves", "elements", "[J", true)
def tyX2 : Nat → FieldType := fun k => match k with
  | 0 => .array .int
  | 1 => .array .int
  | 2 => .array .int
  | _ => .array .long
abbrev wsX20 : List Cond := u_ws RX2 TX2 4
theorem nmX2 : ∀ a, a < 4 → ∀ b, b < 4 → a ≠ b → (TX2 a).2.1 ≠ (TX2 b).2.1 := by decide +kernel
theorem tyX2_ok : ∀ k, k < 4 → parseFieldDescriptor (TX2 k).2.2.1 = some (tyX2 k) := by decide +kernel
abbrev cX2_init : ByteArray := prog_4_method_1_code
def yX2_init : MethodName := ⟨RX2, "<init>", "()V"⟩
abbrev cX2_hasRow : ByteArray := prog_4_method_2_code
def yX2_hasRow : MethodName := ⟨RX2, "hasRow", "(I)Z"⟩
abbrev cX2_hasRule : ByteArray := prog_4_method_3_code
def yX2_hasRule : MethodName := ⟨RX2, "hasRule", "(I)Z"⟩
abbrev cX2_kindIn : ByteArray := prog_4_method_4_code
def yX2_kindIn : MethodName := ⟨RX2, "kindIn", "(I)I"⟩
abbrev cX2_countHolding : ByteArray := prog_4_method_5_code
def yX2_countHolding : MethodName := ⟨RX2, "countHolding", "()I"⟩
abbrev cX2_putRule : ByteArray := prog_4_method_6_code
def yX2_putRule : MethodName := ⟨RX2, "putRule", "(III)V"⟩
abbrev cX2_putRow : ByteArray := prog_4_method_7_code
def yX2_putRow : MethodName := ⟨RX2, "putRow", "(III)V"⟩
abbrev cX2_at : ByteArray := prog_4_method_8_code
def yX2_at : MethodName := ⟨RX2, "at", "(II)J"⟩
abbrev cX2_put : ByteArray := prog_4_method_9_code
def yX2_put : MethodName := ⟨RX2, "put", "(IIJ)V"⟩
abbrev cX2_move : ByteArray := prog_4_method_10_code
def yX2_move : MethodName := ⟨RX2, "move", "(IIIII)V"⟩
abbrev cX2_lowestBits : ByteArray := prog_4_method_11_code
def yX2_lowestBits : MethodName := ⟨RX2, "lowestBits", "(IJ)J"⟩
def RX3 : String := "EachBookOnce$Tape"
def TX3 : u_T := fun k => match k with
  | 0 => ("EachBookOnce$Tape", "bytes", "[B", true)
  | 1 => ("EachBookOnce$Tape", "size", "I", false)
  | 2 => ("EachBookOnce$Tape", "start", "I", false)
  | 3 => ("EachBookOnce$Tape", "end", "I", false)
  | 4 => ("EachBookOnce$Tape", "token", "I", false)
  | 5 => ("EachBookOnce$Tape", "fault", "I", false)
  | _ => ("EachBookOnce$Tape", "draft", "LEachBookOnce$Town;", true)
def tyX3 : Nat → FieldType := fun k => match k with
  | 0 => .array .byte
  | 1 => .int
  | 2 => .int
  | 3 => .int
  | 4 => .int
  | 5 => .int
  | _ => .object "EachBookOnce$Town"
abbrev wsX30 : List Cond := u_ws RX3 TX3 7
theorem nmX3 : ∀ a, a < 7 → ∀ b, b < 7 → a ≠ b → (TX3 a).2.1 ≠ (TX3 b).2.1 := by decide +kernel
theorem tyX3_ok : ∀ k, k < 7 → parseFieldDescriptor (TX3 k).2.2.1 = some (tyX3 k) := by decide +kernel
abbrev cX3_init : ByteArray := prog_5_method_1_code
def yX3_init : MethodName := ⟨RX3, "<init>", "()V"⟩
abbrev cX3_append : ByteArray := prog_5_method_2_code
def yX3_append : MethodName := ⟨RX3, "append", "(B)V"⟩
abbrev cX3_readFrom : ByteArray := prog_5_method_3_code
def yX3_readFrom : MethodName := ⟨RX3, "readFrom", "(LEachBookOnce$Town;)I"⟩
abbrev cX3_readStatement : ByteArray := prog_5_method_4_code
def yX3_readStatement : MethodName := ⟨RX3, "readStatement", "()V"⟩
abbrev cX3_readBook : ByteArray := prog_5_method_5_code
def yX3_readBook : MethodName := ⟨RX3, "readBook", "()V"⟩
abbrev cX3_readNeed : ByteArray := prog_5_method_6_code
def yX3_readNeed : MethodName := ⟨RX3, "readNeed", "()V"⟩
abbrev cX3_readOne : ByteArray := prog_5_method_7_code
def yX3_readOne : MethodName := ⟨RX3, "readOne", "()V"⟩
abbrev cX3_readKnows : ByteArray := prog_5_method_8_code
def yX3_readKnows : MethodName := ⟨RX3, "readKnows", "()V"⟩
abbrev cX3_readWhite : ByteArray := prog_5_method_9_code
def yX3_readWhite : MethodName := ⟨RX3, "readWhite", "()V"⟩
abbrev cX3_passes : ByteArray := prog_5_method_10_code
def yX3_passes : MethodName := ⟨RX3, "passes", "(Ljava/lang/String;)Z"⟩
abbrev cX3_takeNumber : ByteArray := prog_5_method_11_code
def yX3_takeNumber : MethodName := ⟨RX3, "takeNumber", "(II)I"⟩
abbrev cX3_numberThere : ByteArray := prog_5_method_12_code
def yX3_numberThere : MethodName := ⟨RX3, "numberThere", "()I"⟩
abbrev cX3_isWord : ByteArray := prog_5_method_13_code
def yX3_isWord : MethodName := ⟨RX3, "isWord", "(Ljava/lang/String;)Z"⟩
abbrev cX3_fail : ByteArray := prog_5_method_14_code
def yX3_fail : MethodName := ⟨RX3, "fail", "()V"⟩
abbrev cX3_step : ByteArray := prog_5_method_15_code
def yX3_step : MethodName := ⟨RX3, "step", "()V"⟩
abbrev cX3_sortAt : ByteArray := prog_5_method_16_code
def yX3_sortAt : MethodName := ⟨RX3, "sortAt", "(I)I"⟩
def RX4 : String := "EachBookOnce$Town"
def TX4 : u_T := fun k => match k with
  | 0 => ("EachBookOnce$Town", "books", "I", false)
  | 1 => ("EachBookOnce$Town", "people", "I", false)
  | 2 => ("EachBookOnce$Town", "white", "I", false)
  | 3 => ("EachBookOnce$Town", "gone", "I", false)
  | 4 => ("EachBookOnce$Town", "luck", "I", false)
  | 5 => ("EachBookOnce$Town", "worth", "[I", true)
  | 6 => ("EachBookOnce$Town", "needed", "[I", true)
  | 7 => ("EachBookOnce$Town", "good", "[I", true)
  | 8 => ("EachBookOnce$Town", "age", "[I", true)
  | 9 => ("EachBookOnce$Town", "reading", "[I", true)
  | 10 => ("EachBookOnce$Town", "memory", "[I", true)
  | 11 => ("EachBookOnce$Town", "telling", "[I", true)
  | _ => ("EachBookOnce$Town", "share", "[I", true)
def tyX4 : Nat → FieldType := fun k => match k with
  | 0 => .int
  | 1 => .int
  | 2 => .int
  | 3 => .int
  | 4 => .int
  | 5 => .array .int
  | 6 => .array .int
  | 7 => .array .int
  | 8 => .array .int
  | 9 => .array .int
  | 10 => .array .int
  | 11 => .array .int
  | _ => .array .int
abbrev wsX40 : List Cond := u_ws RX4 TX4 13
theorem nmX4 : ∀ a, a < 13 → ∀ b, b < 13 → a ≠ b → (TX4 a).2.1 ≠ (TX4 b).2.1 := by decide +kernel
theorem tyX4_ok : ∀ k, k < 13 → parseFieldDescriptor (TX4 k).2.2.1 = some (tyX4 k) := by decide +kernel
abbrev cX4_init : ByteArray := prog_6_method_1_code
def yX4_init : MethodName := ⟨RX4, "<init>", "()V"⟩
abbrev cX4_become : ByteArray := prog_6_method_2_code
def yX4_become : MethodName := ⟨RX4, "become", "(LEachBookOnce$Town;)V"⟩
abbrev cX4_isBook : ByteArray := prog_6_method_3_code
def yX4_isBook : MethodName := ⟨RX4, "isBook", "(I)Z"⟩
abbrev cX4_isOne : ByteArray := prog_6_method_4_code
def yX4_isOne : MethodName := ⟨RX4, "isOne", "(I)Z"⟩
abbrev cX4_setThere : ByteArray := prog_6_method_5_code
def yX4_setThere : MethodName := ⟨RX4, "setThere", "()I"⟩
abbrev cX4_addBook : ByteArray := prog_6_method_6_code
def yX4_addBook : MethodName := ⟨RX4, "addBook", "(II)I"⟩
abbrev cX4_addOne : ByteArray := prog_6_method_7_code
def yX4_addOne : MethodName := ⟨RX4, "addOne", "(IIII)I"⟩
abbrev cX4_knows : ByteArray := prog_6_method_8_code
def yX4_knows : MethodName := ⟨RX4, "knows", "(II)I"⟩
abbrev cX4_learn : ByteArray := prog_6_method_9_code
def yX4_learn : MethodName := ⟨RX4, "learn", "(III)V"⟩
abbrev cX4_mostKnown : ByteArray := prog_6_method_10_code
def yX4_mostKnown : MethodName := ⟨RX4, "mostKnown", "(II)I"⟩
abbrev cX4_worthAmong : ByteArray := prog_6_method_11_code
def yX4_worthAmong : MethodName := ⟨RX4, "worthAmong", "(I)I"⟩
abbrev cX4_worthNow : ByteArray := prog_6_method_12_code
def yX4_worthNow : MethodName := ⟨RX4, "worthNow", "()I"⟩
abbrev cX4_booksKnown : ByteArray := prog_6_method_13_code
def yX4_booksKnown : MethodName := ⟨RX4, "booksKnown", "(II)I"⟩
abbrev cX4_groundOf : ByteArray := prog_6_method_14_code
def yX4_groundOf : MethodName := ⟨RX4, "groundOf", "(II)I"⟩
abbrev cX4_grasped : ByteArray := prog_6_method_15_code
def yX4_grasped : MethodName := ⟨RX4, "grasped", "(II)I"⟩
abbrev cX4_wouldKnow : ByteArray := prog_6_method_16_code
def yX4_wouldKnow : MethodName := ⟨RX4, "wouldKnow", "(II)I"⟩
abbrev cX4_readBy : ByteArray := prog_6_method_17_code
def yX4_readBy : MethodName := ⟨RX4, "readBy", "(II)V"⟩
abbrev cX4_hearFrom : ByteArray := prog_6_method_18_code
def yX4_hearFrom : MethodName := ⟨RX4, "hearFrom", "(III)I"⟩
abbrev cX4_writeBy : ByteArray := prog_6_method_19_code
def yX4_writeBy : MethodName := ⟨RX4, "writeBy", "(II)I"⟩
abbrev cX4_afterTelling : ByteArray := prog_6_method_20_code
def yX4_afterTelling : MethodName := ⟨RX4, "afterTelling", "(II)I"⟩
abbrev cX4_gainByTelling : ByteArray := prog_6_method_21_code
def yX4_gainByTelling : MethodName := ⟨RX4, "gainByTelling", "(III)I"⟩
abbrev cX4_tellTo : ByteArray := prog_6_method_22_code
def yX4_tellTo : MethodName := ⟨RX4, "tellTo", "(III)V"⟩
abbrev cX4_gainByReading : ByteArray := prog_6_method_23_code
def yX4_gainByReading : MethodName := ⟨RX4, "gainByReading", "(I)I"⟩
abbrev cX4_bestReader : ByteArray := prog_6_method_24_code
def yX4_bestReader : MethodName := ⟨RX4, "bestReader", "(I)I"⟩
abbrev cX4_dearestUnread : ByteArray := prog_6_method_25_code
def yX4_dearestUnread : MethodName := ⟨RX4, "dearestUnread", "()I"⟩
abbrev cX4_unreadAt : ByteArray := prog_6_method_26_code
def yX4_unreadAt : MethodName := ⟨RX4, "unreadAt", "(I)I"⟩
abbrev cX4_youngestBut : ByteArray := prog_6_method_27_code
def yX4_youngestBut : MethodName := ⟨RX4, "youngestBut", "(I)I"⟩
abbrev cX4_allNeededBy : ByteArray := prog_6_method_28_code
def yX4_allNeededBy : MethodName := ⟨RX4, "allNeededBy", "(I)I"⟩
abbrev cX4_allThatNeed : ByteArray := prog_6_method_29_code
def yX4_allThatNeed : MethodName := ⟨RX4, "allThatNeed", "(I)I"⟩
abbrev cX4_endYear : ByteArray := prog_6_method_30_code
def yX4_endYear : MethodName := ⟨RX4, "endYear", "()I"⟩
abbrev cX4_forget : ByteArray := prog_6_method_31_code
def yX4_forget : MethodName := ⟨RX4, "forget", "(I)V"⟩
abbrev cX4_drawDeaths : ByteArray := prog_6_method_32_code
def yX4_drawDeaths : MethodName := ⟨RX4, "drawDeaths", "()V"⟩
abbrev cX4_drawBelow20 : ByteArray := prog_6_method_33_code
def yX4_drawBelow20 : MethodName := ⟨RX4, "drawBelow20", "()I"⟩
def RX5 : String := "EachBookOnce"
def TX5 : u_T := fun k => match k with
  | 0 => ("EachBookOnce", "town", "LEachBookOnce$Town;", true)
  | 1 => ("EachBookOnce", "kept", "LEachBookOnce$Town;", true)
  | 2 => ("EachBookOnce", "plans", "LEachBookOnce$Plans;", true)
  | 3 => ("EachBookOnce", "shelves", "LEachBookOnce$Shelves;", true)
  | 4 => ("EachBookOnce", "tape", "LEachBookOnce$Tape;", true)
  | 5 => ("EachBookOnce", "refusals", "[I", true)
  | 6 => ("EachBookOnce", "isKept", "Z", false)
  | 7 => ("EachBookOnce", "yearsEnded", "I", false)
  | _ => ("EachBookOnce", "trueValues", "I", false)
def tyX5 : Nat → FieldType := fun k => match k with
  | 0 => .object "EachBookOnce$Town"
  | 1 => .object "EachBookOnce$Town"
  | 2 => .object "EachBookOnce$Plans"
  | 3 => .object "EachBookOnce$Shelves"
  | 4 => .object "EachBookOnce$Tape"
  | 5 => .array .int
  | 6 => .boolean
  | 7 => .int
  | _ => .int
abbrev wsX50 : List Cond := u_ws RX5 TX5 9
theorem nmX5 : ∀ a, a < 9 → ∀ b, b < 9 → a ≠ b → (TX5 a).2.1 ≠ (TX5 b).2.1 := by decide +kernel
theorem tyX5_ok : ∀ k, k < 9 → parseFieldDescriptor (TX5 k).2.2.1 = some (tyX5 k) := by decide +kernel
abbrev cX5_init : ByteArray := prog_1_method_1_code
def yX5_init : MethodName := ⟨RX5, "<init>", "()V"⟩
abbrev cX5_row : ByteArray := prog_1_method_2_code
def yX5_row : MethodName := ⟨RX5, "row", "(III)I"⟩
abbrev cX5_set : ByteArray := prog_1_method_3_code
def yX5_set : MethodName := ⟨RX5, "set", "(IIJ)I"⟩
abbrev cX5_copy : ByteArray := prog_1_method_4_code
def yX5_copy : MethodName := ⟨RX5, "copy", "(IIIII)I"⟩
abbrev cX5_element : ByteArray := prog_1_method_5_code
def yX5_element : MethodName := ⟨RX5, "element", "(II)J"⟩
abbrev cX5_holds : ByteArray := prog_1_method_6_code
def yX5_holds : MethodName := ⟨RX5, "holds", "(I)I"⟩
abbrev cX5_rule : ByteArray := prog_1_method_7_code
def yX5_rule : MethodName := ⟨RX5, "rule", "(III)I"⟩
abbrev cX5_says : ByteArray := prog_1_method_8_code
def yX5_says : MethodName := ⟨RX5, "says", "(II)I"⟩
abbrev cX5_book : ByteArray := prog_1_method_9_code
def yX5_book : MethodName := ⟨RX5, "book", "(II)I"⟩
abbrev cX5_one : ByteArray := prog_1_method_10_code
def yX5_one : MethodName := ⟨RX5, "one", "(IIII)I"⟩
abbrev cX5_ones : ByteArray := prog_1_method_11_code
def yX5_ones : MethodName := ⟨RX5, "ones", "(II)I"⟩
abbrev cX5_feed : ByteArray := prog_1_method_12_code
def yX5_feed : MethodName := ⟨RX5, "feed", "(II)I"⟩
abbrev cX5_wipe : ByteArray := prog_1_method_13_code
def yX5_wipe : MethodName := ⟨RX5, "wipe", "()I"⟩
abbrev cX5_town : ByteArray := prog_1_method_14_code
def yX5_town : MethodName := ⟨RX5, "town", "()I"⟩
abbrev cX5_bookOf : ByteArray := prog_1_method_15_code
def yX5_bookOf : MethodName := ⟨RX5, "bookOf", "(II)I"⟩
abbrev cX5_oneOf : ByteArray := prog_1_method_16_code
def yX5_oneOf : MethodName := ⟨RX5, "oneOf", "(II)I"⟩
abbrev cX5_known : ByteArray := prog_1_method_17_code
def yX5_known : MethodName := ⟨RX5, "known", "(II)I"⟩
abbrev cX5_alter : ByteArray := prog_1_method_18_code
def yX5_alter : MethodName := ⟨RX5, "alter", "(III)I"⟩
abbrev cX5_ground : ByteArray := prog_1_method_19_code
def yX5_ground : MethodName := ⟨RX5, "ground", "(II)I"⟩
abbrev cX5_would : ByteArray := prog_1_method_20_code
def yX5_would : MethodName := ⟨RX5, "would", "(II)I"⟩
abbrev cX5_read : ByteArray := prog_1_method_21_code
def yX5_read : MethodName := ⟨RX5, "read", "(II)I"⟩
abbrev cX5_aloud : ByteArray := prog_1_method_22_code
def yX5_aloud : MethodName := ⟨RX5, "aloud", "(III)I"⟩
abbrev cX5_tell : ByteArray := prog_1_method_23_code
def yX5_tell : MethodName := ⟨RX5, "tell", "(III)I"⟩
abbrev cX5_write : ByteArray := prog_1_method_24_code
def yX5_write : MethodName := ⟨RX5, "write", "(II)I"⟩
abbrev cX5_value : ByteArray := prog_1_method_25_code
def yX5_value : MethodName := ⟨RX5, "value", "()I"⟩
abbrev cX5_reader : ByteArray := prog_1_method_26_code
def yX5_reader : MethodName := ⟨RX5, "reader", "(I)I"⟩
abbrev cX5_run : ByteArray := prog_1_method_27_code
def yX5_run : MethodName := ⟨RX5, "run", "(III)I"⟩
abbrev cX5_head : ByteArray := prog_1_method_28_code
def yX5_head : MethodName := ⟨RX5, "head", "(I)I"⟩
abbrev cX5_who : ByteArray := prog_1_method_29_code
def yX5_who : MethodName := ⟨RX5, "who", "(II)I"⟩
abbrev cX5_order : ByteArray := prog_1_method_30_code
def yX5_order : MethodName := ⟨RX5, "order", "(II)I"⟩
abbrev cX5_keeping : ByteArray := prog_1_method_31_code
def yX5_keeping : MethodName := ⟨RX5, "keeping", "(II)I"⟩
abbrev cX5_left : ByteArray := prog_1_method_32_code
def yX5_left : MethodName := ⟨RX5, "left", "(III)I"⟩
abbrev cX5_longest : ByteArray := prog_1_method_33_code
def yX5_longest : MethodName := ⟨RX5, "longest", "(III)I"⟩
abbrev cX5_hangs : ByteArray := prog_1_method_34_code
def yX5_hangs : MethodName := ⟨RX5, "hangs", "()I"⟩
abbrev cX5_lost : ByteArray := prog_1_method_35_code
def yX5_lost : MethodName := ⟨RX5, "lost", "(I)I"⟩
abbrev cX5_bear : ByteArray := prog_1_method_36_code
def yX5_bear : MethodName := ⟨RX5, "bear", "(I)I"⟩
abbrev cX5_youngest : ByteArray := prog_1_method_37_code
def yX5_youngest : MethodName := ⟨RX5, "youngest", "(I)I"⟩
abbrev cX5_teach : ByteArray := prog_1_method_38_code
def yX5_teach : MethodName := ⟨RX5, "teach", "(II)I"⟩
abbrev cX5_needs : ByteArray := prog_1_method_39_code
def yX5_needs : MethodName := ⟨RX5, "needs", "(IZ)I"⟩
abbrev cX5_next : ByteArray := prog_1_method_40_code
def yX5_next : MethodName := ⟨RX5, "next", "()I"⟩
abbrev cX5_two : ByteArray := prog_1_method_41_code
def yX5_two : MethodName := ⟨RX5, "two", "(II)I"⟩
abbrev cX5_gains : ByteArray := prog_1_method_42_code
def yX5_gains : MethodName := ⟨RX5, "gains", "(II)I"⟩
abbrev cX5_judge : ByteArray := prog_1_method_43_code
def yX5_judge : MethodName := ⟨RX5, "judge", "(II)I"⟩
abbrev cX5_told : ByteArray := prog_1_method_44_code
def yX5_told : MethodName := ⟨RX5, "told", "(II)I"⟩
abbrev cX5_years : ByteArray := prog_1_method_45_code
def yX5_years : MethodName := ⟨RX5, "years", "(II)I"⟩
abbrev cX5_ends : ByteArray := prog_1_method_46_code
def yX5_ends : MethodName := ⟨RX5, "ends", "()I"⟩
abbrev cX5_seed : ByteArray := prog_1_method_47_code
def yX5_seed : MethodName := ⟨RX5, "seed", "(I)I"⟩
abbrev cX5_image : ByteArray := prog_1_method_48_code
def yX5_image : MethodName := ⟨RX5, "image", "()I"⟩
abbrev cX5_back : ByteArray := prog_1_method_49_code
def yX5_back : MethodName := ⟨RX5, "back", "()I"⟩
abbrev cX5_status : ByteArray := prog_1_method_50_code
def yX5_status : MethodName := ⟨RX5, "status", "(I)I"⟩
abbrev cX5_refuse : ByteArray := prog_1_method_51_code
def yX5_refuse : MethodName := ⟨RX5, "refuse", "(I)I"⟩
abbrev cX5_within : ByteArray := prog_1_method_52_code
def yX5_within : MethodName := ⟨RX5, "within", "(JJJ)Z"⟩
abbrev cX5_isShelf : ByteArray := prog_1_method_53_code
def yX5_isShelf : MethodName := ⟨RX5, "isShelf", "(I)Z"⟩
abbrev cX5_has : ByteArray := prog_1_method_54_code
def yX5_has : MethodName := ⟨RX5, "has", "(II)Z"⟩
abbrev cX5_setOfAll : ByteArray := prog_1_method_55_code
def yX5_setOfAll : MethodName := ⟨RX5, "setOfAll", "(I)I"⟩
abbrev cX5_isSetOf : ByteArray := prog_1_method_56_code
def yX5_isSetOf : MethodName := ⟨RX5, "isSetOf", "(II)Z"⟩
abbrev cX5_canBeOne : ByteArray := prog_1_method_57_code
def yX5_canBeOne : MethodName := ⟨RX5, "canBeOne", "(JJJJ)Z"⟩
abbrev cX5_canBeTold : ByteArray := prog_1_method_58_code
def yX5_canBeTold : MethodName := ⟨RX5, "canBeTold", "(II)Z"⟩
abbrev cX5_isPair : ByteArray := prog_1_method_59_code
def yX5_isPair : MethodName := ⟨RX5, "isPair", "(II)Z"⟩
abbrev cX5_readFit : ByteArray := prog_1_method_60_code
def yX5_readFit : MethodName := ⟨RX5, "readFit", "(II)I"⟩
abbrev cX5_rowFit : ByteArray := prog_1_method_61_code
def yX5_rowFit : MethodName := ⟨RX5, "rowFit", "(I)I"⟩
abbrev cX5_ruleFit : ByteArray := prog_1_method_62_code
def yX5_ruleFit : MethodName := ⟨RX5, "ruleFit", "(I)I"⟩
abbrev cX5_copyFit : ByteArray := prog_1_method_63_code
def yX5_copyFit : MethodName := ⟨RX5, "copyFit", "(II)I"⟩
abbrev cX5_hasSpan : ByteArray := prog_1_method_64_code
def yX5_hasSpan : MethodName := ⟨RX5, "hasSpan", "(III)Z"⟩
abbrev cX5_toldFit : ByteArray := prog_1_method_65_code
def yX5_toldFit : MethodName := ⟨RX5, "toldFit", "(II)I"⟩
abbrev cX5_firstWrong : ByteArray := prog_1_method_66_code
def yX5_firstWrong : MethodName := ⟨RX5, "firstWrong", "(II)I"⟩
def RX6 : String := "EachBookOnceModel"
def TX6 : u_T := fun k => match k with
  | 0 => ("EachBookOnceModel", "shelf", "[I", true)
  | 1 => ("EachBookOnceModel", "rowSort", "[I", true)
  | 2 => ("EachBookOnceModel", "rowSize", "[I", true)
  | 3 => ("EachBookOnceModel", "rows", "[[J", true)
  | 4 => ("EachBookOnceModel", "moved", "[J", true)
  | 5 => ("EachBookOnceModel", "ruleKind", "[I", true)
  | 6 => ("EachBookOnceModel", "ruleBy", "[I", true)
  | 7 => ("EachBookOnceModel", "tape", "[I", true)
  | 8 => ("EachBookOnceModel", "tapeSize", "I", false)
  | 9 => ("EachBookOnceModel", "refused", "[I", true)
  | 10 => ("EachBookOnceModel", "books", "I", false)
  | 11 => ("EachBookOnceModel", "book", "[[I", true)
  | 12 => ("EachBookOnceModel", "people", "I", false)
  | 13 => ("EachBookOnceModel", "one", "[[I", true)
  | 14 => ("EachBookOnceModel", "known", "[[I", true)
  | 15 => ("EachBookOnceModel", "ended", "I", false)
  | 16 => ("EachBookOnceModel", "taken", "I", false)
  | 17 => ("EachBookOnceModel", "seed", "I", false)
  | 18 => ("EachBookOnceModel", "kept", "LEachBookOnceModel;", false)
  | 19 => ("EachBookOnceModel", "tried", "LEachBookOnceModel;", false)
  | 20 => ("EachBookOnceModel", "at", "I", false)
  | 21 => ("EachBookOnceModel", "token", "I", false)
  | 22 => ("EachBookOnceModel", "from", "I", false)
  | 23 => ("EachBookOnceModel", "figures", "J", false)
  | 24 => ("EachBookOnceModel", "fault", "I", false)
  | 25 => ("EachBookOnceModel", "three", "[I", true)
  | 26 => ("EachBookOnceModel", "statements", "I", false)
  | 27 => ("EachBookOnceModel", "lastValue", "I", false)
  | 28 => ("EachBookOnceModel", "whoSum", "I", false)
  | 29 => ("EachBookOnceModel", "later", "LEachBookOnceModel;", false)
  | 30 => ("EachBookOnceModel", "unread", "[I", true)
  | 31 => ("EachBookOnceModel", "tryRow", "[I", true)
  | 32 => ("EachBookOnceModel", "bestRow", "[I", true)
  | 33 => ("EachBookOnceModel", "steps", "[LEachBookOnceModel;", true)
  | _ => ("EachBookOnceModel", "orderMost", "I", false)
def tyX6 : Nat → FieldType := fun k => match k with
  | 0 => .array .int
  | 1 => .array .int
  | 2 => .array .int
  | 3 => .array (.array .long)
  | 4 => .array .long
  | 5 => .array .int
  | 6 => .array .int
  | 7 => .array .int
  | 8 => .int
  | 9 => .array .int
  | 10 => .int
  | 11 => .array (.array .int)
  | 12 => .int
  | 13 => .array (.array .int)
  | 14 => .array (.array .int)
  | 15 => .int
  | 16 => .int
  | 17 => .int
  | 18 => .object "EachBookOnceModel"
  | 19 => .object "EachBookOnceModel"
  | 20 => .int
  | 21 => .int
  | 22 => .int
  | 23 => .long
  | 24 => .int
  | 25 => .array .int
  | 26 => .int
  | 27 => .int
  | 28 => .int
  | 29 => .object "EachBookOnceModel"
  | 30 => .array .int
  | 31 => .array .int
  | 32 => .array .int
  | 33 => .array (.object "EachBookOnceModel")
  | _ => .int
abbrev wsX60 : List Cond := u_ws RX6 TX6 35
theorem nmX6 : ∀ a, a < 35 → ∀ b, b < 35 → a ≠ b → (TX6 a).2.1 ≠ (TX6 b).2.1 := by decide +kernel
theorem tyX6_ok : ∀ k, k < 35 → parseFieldDescriptor (TX6 k).2.2.1 = some (tyX6 k) := by decide +kernel
abbrev cX6_init : ByteArray := prog_8_method_1_code
def yX6_init : MethodName := ⟨RX6, "<init>", "()V"⟩
abbrev cX6_refuse : ByteArray := prog_8_method_2_code
def yX6_refuse : MethodName := ⟨RX6, "refuse", "(I)I"⟩
abbrev cX6_in : ByteArray := prog_8_method_3_code
def yX6_in : MethodName := ⟨RX6, "in", "(JJJ)Z"⟩
abbrev cX6_isBook : ByteArray := prog_8_method_4_code
def yX6_isBook : MethodName := ⟨RX6, "isBook", "(J)Z"⟩
abbrev cX6_isOne : ByteArray := prog_8_method_5_code
def yX6_isOne : MethodName := ⟨RX6, "isOne", "(J)Z"⟩
abbrev cX6_isThere : ByteArray := prog_8_method_6_code
def yX6_isThere : MethodName := ⟨RX6, "isThere", "(I)Z"⟩
abbrev cX6_isWhite : ByteArray := prog_8_method_7_code
def yX6_isWhite : MethodName := ⟨RX6, "isWhite", "(I)Z"⟩
abbrev cX6_thereMany : ByteArray := prog_8_method_8_code
def yX6_thereMany : MethodName := ⟨RX6, "thereMany", "()I"⟩
abbrev cX6_whiteMany : ByteArray := prog_8_method_9_code
def yX6_whiteMany : MethodName := ⟨RX6, "whiteMany", "()I"⟩
abbrev cX6_bits : ByteArray := prog_8_method_10_code
def yX6_bits : MethodName := ⟨RX6, "bits", "(I)I"⟩
abbrev cX6_row : ByteArray := prog_8_method_11_code
def yX6_row : MethodName := ⟨RX6, "row", "(III)I"⟩
abbrev cX6_fit : ByteArray := prog_8_method_12_code
def yX6_fit : MethodName := ⟨RX6, "fit", "(IJ)J"⟩
abbrev cX6_noRow : ByteArray := prog_8_method_13_code
def yX6_noRow : MethodName := ⟨RX6, "noRow", "(I)I"⟩
abbrev cX6_noRule : ByteArray := prog_8_method_14_code
def yX6_noRule : MethodName := ⟨RX6, "noRule", "(I)I"⟩
abbrev cX6_set : ByteArray := prog_8_method_15_code
def yX6_set : MethodName := ⟨RX6, "set", "(IIJ)I"⟩
abbrev cX6_copy : ByteArray := prog_8_method_16_code
def yX6_copy : MethodName := ⟨RX6, "copy", "(IIIII)I"⟩
abbrev cX6_element : ByteArray := prog_8_method_17_code
def yX6_element : MethodName := ⟨RX6, "element", "(II)J"⟩
abbrev cX6_holds : ByteArray := prog_8_method_18_code
def yX6_holds : MethodName := ⟨RX6, "holds", "(I)I"⟩
abbrev cX6_rule : ByteArray := prog_8_method_19_code
def yX6_rule : MethodName := ⟨RX6, "rule", "(III)I"⟩
abbrev cX6_isUnder : ByteArray := prog_8_method_20_code
def yX6_isUnder : MethodName := ⟨RX6, "isUnder", "(II)Z"⟩
abbrev cX6_says : ByteArray := prog_8_method_21_code
def yX6_says : MethodName := ⟨RX6, "says", "(II)I"⟩
abbrev cX6_newBook : ByteArray := prog_8_method_22_code
def yX6_newBook : MethodName := ⟨RX6, "newBook", "(I)V"⟩
abbrev cX6_book : ByteArray := prog_8_method_23_code
def yX6_book : MethodName := ⟨RX6, "book", "(II)I"⟩
abbrev cX6_newOne : ByteArray := prog_8_method_24_code
def yX6_newOne : MethodName := ⟨RX6, "newOne", "()V"⟩
abbrev cX6_add : ByteArray := prog_8_method_25_code
def yX6_add : MethodName := ⟨RX6, "add", "(JJJJ)I"⟩
abbrev cX6_one : ByteArray := prog_8_method_26_code
def yX6_one : MethodName := ⟨RX6, "one", "(IIII)I"⟩
abbrev cX6_ones : ByteArray := prog_8_method_27_code
def yX6_ones : MethodName := ⟨RX6, "ones", "(II)I"⟩
abbrev cX6_feed : ByteArray := prog_8_method_28_code
def yX6_feed : MethodName := ⟨RX6, "feed", "(II)I"⟩
abbrev cX6_wipe : ByteArray := prog_8_method_29_code
def yX6_wipe : MethodName := ⟨RX6, "wipe", "()I"⟩
abbrev cX6_isLetter : ByteArray := prog_8_method_30_code
def yX6_isLetter : MethodName := ⟨RX6, "isLetter", "(I)Z"⟩
abbrev cX6_isDigit : ByteArray := prog_8_method_31_code
def yX6_isDigit : MethodName := ⟨RX6, "isDigit", "(I)Z"⟩
abbrev cX6_look : ByteArray := prog_8_method_32_code
def yX6_look : MethodName := ⟨RX6, "look", "()V"⟩
abbrev cX6_wrong : ByteArray := prog_8_method_33_code
def yX6_wrong : MethodName := ⟨RX6, "wrong", "()Z"⟩
abbrev cX6_isWord : ByteArray := prog_8_method_34_code
def yX6_isWord : MethodName := ⟨RX6, "isWord", "(Ljava/lang/String;)Z"⟩
abbrev cX6_number : ByteArray := prog_8_method_35_code
def yX6_number : MethodName := ⟨RX6, "number", "([IIII)Z"⟩
abbrev cX6_tells : ByteArray := prog_8_method_36_code
def yX6_tells : MethodName := ⟨RX6, "tells", "(Ljava/lang/String;[IIII)Z"⟩
abbrev cX6_perhaps : ByteArray := prog_8_method_37_code
def yX6_perhaps : MethodName := ⟨RX6, "perhaps", "(Ljava/lang/String;[IIII)Z"⟩
abbrev cX6_statement : ByteArray := prog_8_method_38_code
def yX6_statement : MethodName := ⟨RX6, "statement", "()Z"⟩
abbrev cX6_readAll : ByteArray := prog_8_method_39_code
def yX6_readAll : MethodName := ⟨RX6, "readAll", "()Z"⟩
abbrev cX6_town : ByteArray := prog_8_method_40_code
def yX6_town : MethodName := ⟨RX6, "town", "()I"⟩
abbrev cX6_bookOf : ByteArray := prog_8_method_41_code
def yX6_bookOf : MethodName := ⟨RX6, "bookOf", "(II)I"⟩
abbrev cX6_oneOf : ByteArray := prog_8_method_42_code
def yX6_oneOf : MethodName := ⟨RX6, "oneOf", "(II)I"⟩
abbrev cX6_known : ByteArray := prog_8_method_43_code
def yX6_known : MethodName := ⟨RX6, "known", "(II)I"⟩
abbrev cX6_alter : ByteArray := prog_8_method_44_code
def yX6_alter : MethodName := ⟨RX6, "alter", "(III)I"⟩
abbrev cX6_needs : ByteArray := prog_8_method_45_code
def yX6_needs : MethodName := ⟨RX6, "needs", "(IZ)I"⟩
abbrev cX6_groundOf : ByteArray := prog_8_method_46_code
def yX6_groundOf : MethodName := ⟨RX6, "groundOf", "(II)I"⟩
abbrev cX6_ground : ByteArray := prog_8_method_47_code
def yX6_ground : MethodName := ⟨RX6, "ground", "(II)I"⟩
abbrev cX6_byGround : ByteArray := prog_8_method_48_code
def yX6_byGround : MethodName := ⟨RX6, "byGround", "(III)I"⟩
abbrev cX6_wouldKnow : ByteArray := prog_8_method_49_code
def yX6_wouldKnow : MethodName := ⟨RX6, "wouldKnow", "(II)I"⟩
abbrev cX6_noReading : ByteArray := prog_8_method_50_code
def yX6_noReading : MethodName := ⟨RX6, "noReading", "(II)I"⟩
abbrev cX6_would : ByteArray := prog_8_method_51_code
def yX6_would : MethodName := ⟨RX6, "would", "(II)I"⟩
abbrev cX6_reads : ByteArray := prog_8_method_52_code
def yX6_reads : MethodName := ⟨RX6, "reads", "(II)V"⟩
abbrev cX6_read : ByteArray := prog_8_method_53_code
def yX6_read : MethodName := ⟨RX6, "read", "(II)I"⟩
abbrev cX6_readsTo : ByteArray := prog_8_method_54_code
def yX6_readsTo : MethodName := ⟨RX6, "readsTo", "(III)I"⟩
abbrev cX6_aloud : ByteArray := prog_8_method_55_code
def yX6_aloud : MethodName := ⟨RX6, "aloud", "(III)I"⟩
abbrev cX6_moreBy : ByteArray := prog_8_method_56_code
def yX6_moreBy : MethodName := ⟨RX6, "moreBy", "(III)I"⟩
abbrev cX6_tell : ByteArray := prog_8_method_57_code
def yX6_tell : MethodName := ⟨RX6, "tell", "(III)I"⟩
abbrev cX6_teach : ByteArray := prog_8_method_58_code
def yX6_teach : MethodName := ⟨RX6, "teach", "(II)I"⟩
abbrev cX6_write : ByteArray := prog_8_method_59_code
def yX6_write : MethodName := ⟨RX6, "write", "(II)I"⟩
abbrev cX6_greatest : ByteArray := prog_8_method_60_code
def yX6_greatest : MethodName := ⟨RX6, "greatest", "(II)I"⟩
abbrev cX6_valueOf : ByteArray := prog_8_method_61_code
def yX6_valueOf : MethodName := ⟨RX6, "valueOf", "(I)I"⟩
abbrev cX6_valueNow : ByteArray := prog_8_method_62_code
def yX6_valueNow : MethodName := ⟨RX6, "valueNow", "()I"⟩
abbrev cX6_value : ByteArray := prog_8_method_63_code
def yX6_value : MethodName := ⟨RX6, "value", "()I"⟩
abbrev cX6_two : ByteArray := prog_8_method_64_code
def yX6_two : MethodName := ⟨RX6, "two", "(II)I"⟩
abbrev cX6_youngestBut : ByteArray := prog_8_method_65_code
def yX6_youngestBut : MethodName := ⟨RX6, "youngestBut", "(I)I"⟩
abbrev cX6_youngest : ByteArray := prog_8_method_66_code
def yX6_youngest : MethodName := ⟨RX6, "youngest", "(I)I"⟩
abbrev cX6_readerOf : ByteArray := prog_8_method_67_code
def yX6_readerOf : MethodName := ⟨RX6, "readerOf", "(I)I"⟩
abbrev cX6_reader : ByteArray := prog_8_method_68_code
def yX6_reader : MethodName := ⟨RX6, "reader", "(I)I"⟩
abbrev cX6_next : ByteArray := prog_8_method_69_code
def yX6_next : MethodName := ⟨RX6, "next", "()I"⟩
abbrev cX6_readMost : ByteArray := prog_8_method_70_code
def yX6_readMost : MethodName := ⟨RX6, "readMost", "(IZ)I"⟩
abbrev cX6_chain : ByteArray := prog_8_method_71_code
def yX6_chain : MethodName := ⟨RX6, "chain", "()V"⟩
abbrev cX6_does : ByteArray := prog_8_method_72_code
def yX6_does : MethodName := ⟨RX6, "does", "(II)I"⟩
abbrev cX6_end : ByteArray := prog_8_method_73_code
def yX6_end : MethodName := ⟨RX6, "end", "()I"⟩
abbrev cX6_ends : ByteArray := prog_8_method_74_code
def yX6_ends : MethodName := ⟨RX6, "ends", "()I"⟩
abbrev cX6_fresh : ByteArray := prog_8_method_75_code
def yX6_fresh : MethodName := ⟨RX6, "fresh", "()LEachBookOnceModel;"⟩
abbrev cX6_goes : ByteArray := prog_8_method_76_code
def yX6_goes : MethodName := ⟨RX6, "goes", "(III)I"⟩
abbrev cX6_sumOf : ByteArray := prog_8_method_77_code
def yX6_sumOf : MethodName := ⟨RX6, "sumOf", "(II)I"⟩
abbrev cX6_run : ByteArray := prog_8_method_78_code
def yX6_run : MethodName := ⟨RX6, "run", "(III)I"⟩
abbrev cX6_gains : ByteArray := prog_8_method_79_code
def yX6_gains : MethodName := ⟨RX6, "gains", "(II)I"⟩
abbrev cX6_head : ByteArray := prog_8_method_80_code
def yX6_head : MethodName := ⟨RX6, "head", "(I)I"⟩
abbrev cX6_findWho : ByteArray := prog_8_method_81_code
def yX6_findWho : MethodName := ⟨RX6, "findWho", "(II)I"⟩
abbrev cX6_who : ByteArray := prog_8_method_82_code
def yX6_who : MethodName := ⟨RX6, "who", "(II)I"⟩
abbrev cX6_keeping : ByteArray := prog_8_method_83_code
def yX6_keeping : MethodName := ⟨RX6, "keeping", "(II)I"⟩
abbrev cX6_rowsFrom : ByteArray := prog_8_method_84_code
def yX6_rowsFrom : MethodName := ⟨RX6, "rowsFrom", "(LEachBookOnceModel;IIII)V"⟩
abbrev cX6_order : ByteArray := prog_8_method_85_code
def yX6_order : MethodName := ⟨RX6, "order", "(II)I"⟩
abbrev cX6_leftOf : ByteArray := prog_8_method_86_code
def yX6_leftOf : MethodName := ⟨RX6, "leftOf", "(III)I"⟩
abbrev cX6_left : ByteArray := prog_8_method_87_code
def yX6_left : MethodName := ⟨RX6, "left", "(III)I"⟩
abbrev cX6_longest : ByteArray := prog_8_method_88_code
def yX6_longest : MethodName := ⟨RX6, "longest", "(III)I"⟩
abbrev cX6_hangs : ByteArray := prog_8_method_89_code
def yX6_hangs : MethodName := ⟨RX6, "hangs", "()I"⟩
abbrev cX6_lostBy : ByteArray := prog_8_method_90_code
def yX6_lostBy : MethodName := ⟨RX6, "lostBy", "(II)I"⟩
abbrev cX6_lost : ByteArray := prog_8_method_91_code
def yX6_lost : MethodName := ⟨RX6, "lost", "(I)I"⟩
abbrev cX6_bear : ByteArray := prog_8_method_92_code
def yX6_bear : MethodName := ⟨RX6, "bear", "(I)I"⟩
abbrev cX6_noTold : ByteArray := prog_8_method_93_code
def yX6_noTold : MethodName := ⟨RX6, "noTold", "(II)I"⟩
abbrev cX6_wrongAt : ByteArray := prog_8_method_94_code
def yX6_wrongAt : MethodName := ⟨RX6, "wrongAt", "(II)I"⟩
abbrev cX6_judge : ByteArray := prog_8_method_95_code
def yX6_judge : MethodName := ⟨RX6, "judge", "(II)I"⟩
abbrev cX6_told : ByteArray := prog_8_method_96_code
def yX6_told : MethodName := ⟨RX6, "told", "(II)I"⟩
abbrev cX6_draw : ByteArray := prog_8_method_97_code
def yX6_draw : MethodName := ⟨RX6, "draw", "(I)I"⟩
abbrev cX6_years : ByteArray := prog_8_method_98_code
def yX6_years : MethodName := ⟨RX6, "years", "(II)I"⟩
abbrev cX6_seed : ByteArray := prog_8_method_99_code
def yX6_seed : MethodName := ⟨RX6, "seed", "(I)I"⟩
abbrev cX6_overAll : ByteArray := prog_8_method_100_code
def yX6_overAll : MethodName := ⟨RX6, "overAll", "([[I[[I)V"⟩
abbrev cX6_takeFrom : ByteArray := prog_8_method_101_code
def yX6_takeFrom : MethodName := ⟨RX6, "takeFrom", "(LEachBookOnceModel;)V"⟩
abbrev cX6_image : ByteArray := prog_8_method_102_code
def yX6_image : MethodName := ⟨RX6, "image", "()I"⟩
abbrev cX6_back : ByteArray := prog_8_method_103_code
def yX6_back : MethodName := ⟨RX6, "back", "()I"⟩
abbrev cX6_status : ByteArray := prog_8_method_104_code
def yX6_status : MethodName := ⟨RX6, "status", "(I)I"⟩
def RJ6 : String := "java/lang/Integer"
def TJ6 : u_T := fun k => match k with
  | _ => ("", "", "", false)
def tyJ6 : Nat → FieldType := fun k => match k with
  | _ => .int
abbrev wsJ60 : List Cond := u_ws RJ6 TJ6 0
theorem nmJ6 : ∀ a, a < 0 → ∀ b, b < 0 → a ≠ b → (TJ6 a).2.1 ≠ (TJ6 b).2.1 := by decide +kernel
theorem tyJ6_ok : ∀ k, k < 0 → parseFieldDescriptor (TJ6 k).2.2.1 = some (tyJ6 k) := by decide +kernel
abbrev cJ6_bitCount_0f7a4 : ByteArray := prog_9_method_49_code
def yJ6_bitCount_0f7a4 : MethodName := ⟨RJ6, "bitCount", "(I)I"⟩
def RJ9 : String := "java/lang/Math"
def TJ9 : u_T := fun k => match k with
  | _ => ("", "", "", false)
def tyJ9 : Nat → FieldType := fun k => match k with
  | _ => .int
abbrev wsJ90 : List Cond := u_ws RJ9 TJ9 0
theorem nmJ9 : ∀ a, a < 0 → ∀ b, b < 0 → a ≠ b → (TJ9 a).2.1 ≠ (TJ9 b).2.1 := by decide +kernel
theorem tyJ9_ok : ∀ k, k < 0 → parseFieldDescriptor (TJ9 k).2.2.1 = some (tyJ9 k) := by decide +kernel
abbrev cJ9_max_7cf53 : ByteArray := prog_10_method_65_code
def yJ9_max_7cf53 : MethodName := ⟨RJ9, "max", "(II)I"⟩
def RJ0 : String := "java/lang/String"
def TJ0 : u_T := fun k => match k with
  | _ => ("", "", "", false)
def tyJ0 : Nat → FieldType := fun k => match k with
  | _ => .int
abbrev wsJ00 : List Cond := u_ws RJ0 TJ0 0
theorem nmJ0 : ∀ a, a < 0 → ∀ b, b < 0 → a ≠ b → (TJ0 a).2.1 ≠ (TJ0 b).2.1 := by decide +kernel
theorem tyJ0_ok : ∀ k, k < 0 → parseFieldDescriptor (TJ0 k).2.2.1 = some (tyJ0 k) := by decide +kernel
abbrev cJ0_length_8abf5 : ByteArray := prog_11_method_54_code
def yJ0_length_8abf5 : MethodName := ⟨RJ0, "length", "()I"⟩
abbrev cJ0_charAt_5068e : ByteArray := prog_11_method_56_code
def yJ0_charAt_5068e : MethodName := ⟨RJ0, "charAt", "(I)C"⟩
abbrev cJ0_coder_7d493 : ByteArray := prog_11_method_152_code
def yJ0_coder_7d493 : MethodName := ⟨RJ0, "coder", "()B"⟩
abbrev cJ0_isLatin1_aae02 : ByteArray := prog_11_method_154_code
def yJ0_isLatin1_aae02 : MethodName := ⟨RJ0, "isLatin1", "()Z"⟩
abbrev cJ0_checkIndex_df160 : ByteArray := prog_11_method_155_code
def yJ0_checkIndex_df160 : MethodName := ⟨RJ0, "checkIndex", "(II)V"⟩
def RJ1 : String := "java/lang/StringLatin1"
def TJ1 : u_T := fun k => match k with
  | _ => ("", "", "", false)
def tyJ1 : Nat → FieldType := fun k => match k with
  | _ => .int
abbrev wsJ10 : List Cond := u_ws RJ1 TJ1 0
theorem nmJ1 : ∀ a, a < 0 → ∀ b, b < 0 → a ≠ b → (TJ1 a).2.1 ≠ (TJ1 b).2.1 := by decide +kernel
theorem tyJ1_ok : ∀ k, k < 0 → parseFieldDescriptor (TJ1 k).2.2.1 = some (tyJ1 k) := by decide +kernel
abbrev cJ1_charAt_3b067 : ByteArray := prog_12_method_2_code
def yJ1_charAt_3b067 : MethodName := ⟨RJ1, "charAt", "([BI)C"⟩
def RJ2 : String := "java/lang/StringUTF16"
def TJ2 : u_T := fun k => match k with
  | _ => ("", "", "", false)
def tyJ2 : Nat → FieldType := fun k => match k with
  | _ => .int
abbrev wsJ20 : List Cond := u_ws RJ2 TJ2 0
theorem nmJ2 : ∀ a, a < 0 → ∀ b, b < 0 → a ≠ b → (TJ2 a).2.1 ≠ (TJ2 b).2.1 := by decide +kernel
theorem tyJ2_ok : ∀ k, k < 0 → parseFieldDescriptor (TJ2 k).2.2.1 = some (tyJ2 k) := by decide +kernel
abbrev cJ2_getChar_3b067 : ByteArray := prog_13_method_5_code
def yJ2_getChar_3b067 : MethodName := ⟨RJ2, "getChar", "([BI)C"⟩
abbrev cJ2_length_9d52b : ByteArray := prog_13_method_6_code
def yJ2_length_9d52b : MethodName := ⟨RJ2, "length", "([B)I"⟩
abbrev cJ2_charAt_3b067 : ByteArray := prog_13_method_83_code
def yJ2_charAt_3b067 : MethodName := ⟨RJ2, "charAt", "([BI)C"⟩
abbrev cJ2_checkIndex_2214a : ByteArray := prog_13_method_91_code
def yJ2_checkIndex_2214a : MethodName := ⟨RJ2, "checkIndex", "(I[B)V"⟩
def RJ10 : String := "java/lang/System"
def TJ10 : u_T := fun k => match k with
  | _ => ("", "", "", false)
def tyJ10 : Nat → FieldType := fun k => match k with
  | _ => .int
abbrev wsJ100 : List Cond := u_ws RJ10 TJ10 0
theorem nmJ10 : ∀ a, a < 0 → ∀ b, b < 0 → a ≠ b → (TJ10 a).2.1 ≠ (TJ10 b).2.1 := by decide +kernel
theorem tyJ10_ok : ∀ k, k < 0 → parseFieldDescriptor (TJ10 k).2.2.1 = some (tyJ10 k) := by decide +kernel
def RJ3 : String := "jdk/internal/util/Preconditions"
def TJ3 : u_T := fun k => match k with
  | _ => ("", "", "", false)
def tyJ3 : Nat → FieldType := fun k => match k with
  | _ => .int
abbrev wsJ30 : List Cond := u_ws RJ3 TJ3 0
theorem nmJ3 : ∀ a, a < 0 → ∀ b, b < 0 → a ≠ b → (TJ3 a).2.1 ≠ (TJ3 b).2.1 := by decide +kernel
theorem tyJ3_ok : ∀ k, k < 0 → parseFieldDescriptor (TJ3 k).2.2.1 = some (tyJ3 k) := by decide +kernel
abbrev cJ3_checkIndex_8e157 : ByteArray := prog_15_method_11_code
def yJ3_checkIndex_8e157 : MethodName := ⟨RJ3, "checkIndex", "(IILjava/util/function/BiFunction;)I"⟩
def RL : String := "EachBookOnceLaw"
abbrev cL_law : ByteArray := code
def yL_law : MethodName := ⟨RL, "law", "([I)Z"⟩
def wsX4_init : List Cond := .code yX4_init cX4_init 1 none :: ([.methodLink RX4 3 objectInit, .instanceMethod objectInit, .code objectInit ⟨#[0xb1]⟩ 1 none, .fieldLink RX4 9 "EachBookOnce$Town" "luck" "I", .arrayClass .int, .fieldLink RX4 15 "EachBookOnce$Town" "worth" "[I", .fieldLink RX4 19 "EachBookOnce$Town" "needed" "[I", .fieldLink RX4 22 "EachBookOnce$Town" "good" "[I", .fieldLink RX4 25 "EachBookOnce$Town" "age" "[I", .fieldLink RX4 28 "EachBookOnce$Town" "reading" "[I", .fieldLink RX4 31 "EachBookOnce$Town" "memory" "[I", .fieldLink RX4 34 "EachBookOnce$Town" "telling" "[I", .fieldLink RX4 37 "EachBookOnce$Town" "share" "[I"] ++ wsX40)
end
section
/-- the tables say that there is the class of arrays over arrays of ty -/
def va_AOA (ty : FieldType) (U : State) : Prop := (Cond.arrayOver (.array ty)).before #[] U = true
theorem va_AOA.use {ty : FieldType} {A : Array Value} {U : State} (h : va_AOA ty U) : (Cond.arrayOver (.array ty)).before A U = true := h
theorem va_AOA.moved {ty : FieldType} {u U : State} (hvm : u.vm.Alike U.vm) (h : va_AOA ty u) : va_AOA ty U := Jvm.Stand.arrayOver_alikeB hvm h
/-! ===== BEGIN new T[n][m]: the outer array a place, the inner ones among the pooled ===== -/
/-- f, but v at every address of l -/
def vr_up {α : Type} (f : Nat → α) (l : List Nat) (v : α) : Nat → α := fun a => if a ∈ l then v else f a
theorem vr_up_in {α : Type} {f : Nat → α} {l : List Nat} {v : α} {a : Nat} (h : a ∈ l) : vr_up f l v a = v := if_pos h
theorem vr_up_ne {α : Type} {f : Nat → α} {l : List Nat} {v : α} {a : Nat} (h : a ∉ l) : vr_up f l v a = f a := if_neg h
theorem vr_rows {L l : List Nat} {f : Nat → va_E} {e : va_E} (h : ∀ a, a ∈ l → a ∉ L) : va_pl L f ++ l.map (fun a => (a, e)) = va_pl (L ++ l) (vr_up f l e) := by
  unfold va_pl
  rw [List.map_append]
  congr 1
  · apply List.map_congr_left
    intro a ha
    rw [vr_up_ne (fun q => h a q ha)]
  · apply List.map_congr_left
    intro a ha
    rw [vr_up_in ha]
theorem vr_lay {X rows : va_W} {x : Nat × va_E} {pl : va_W} {D : va_G} {cl : List vw_C} {H : Heap} (hP : va_P D cl (((X ++ pl) ++ [x]) ++ rows) H) : va_P D cl ((X ++ [x]) ++ (pl ++ rows)) H := by
  rw [List.append_assoc (X ++ pl)] at hP
  have h := va_P.swap hP
  rw [← List.append_assoc X] at h
  have h2 := va_P.swap h
  rw [List.append_assoc (X ++ [x])] at h2
  exact h2
theorem vr_layD {X rows : va_W} {x : Nat × va_E} {pl : va_W} {A : Nat → Prop} (hD : va_D A (((X ++ pl) ++ [x]) ++ rows)) : va_D A ((X ++ [x]) ++ (pl ++ rows)) := by
  rw [List.append_assoc (X ++ pl)] at hD
  have h := va_D.swap hD
  rw [← List.append_assoc X] at h
  have h2 := va_D.swap h
  rw [List.append_assoc (X ++ [x])] at h2
  exact h2
theorem vr_outer (c : ClassId) (N h0 : Nat) : ∀ i : Nat, Jvm.Free.Multi.outerC c N h0 i = arrV c N (fun j => va_rf (if j < i then some (h0 + 1 + j) else none))
  | 0 => by
    show ({ cls := c, slots := Array.replicate N .null, vm := .none } : Cell) = _
    rw [arrV_new]
    refine congrArg (arrV c N) (funext fun j => ?_)
    simp [va_rf]
  | i + 1 => by
    show (Jvm.Free.Multi.outerC c N h0 i).setSlot i (.ref (h0 + 1 + i)) = _
    rw [vr_outer c N h0 i, arrV_store]
    refine congrArg (arrV c N) (funext fun j => ?_)
    by_cases e : j = i
    · subst e
      simp [updV, va_rf]
    · by_cases h : j < i
      · simp [updV, e, h, Nat.lt_succ_of_lt h]
      · simp [updV, e, h, show ¬ j < i + 1 by omega]
section VGM
variable {p : Program} {l : Launch} {e : Env} {R : Room} {s : State} {m : MethodId} {args : Array Value} {below : List Frame} {meth : Method} {c : Code} {H : Heap} {locs : List Loc} {cells slots : Nat} {Q : State → Prop}
variable {cc : ByteArray} {pc : Nat} {ls : Array Slot} {rest : List Value} {D : va_G} {cl : List vw_C} {A : Nat → Prop} {a : Nat} {tys : List (ClassId × FieldType)} {ws : va_W} {H0 : Heap}
theorem va_mna {X : va_W} {L : List Nat} {f : Nat → va_E} {cc : ByteArray} (hexec : p.tables.exec = Jvm.exec) (hb : c.code = cc) {own : String} {index : Nat} {ty : FieldType} {cy : ClassId} (hown : s.vm.findClass own = some m.cls) (hclink : (Cond.classLink own index ("[" ++ (FieldType.array ty).toString)).before args s = true) (hover : va_AOA ty s) (harr : (Cond.arrayClass ty).before args s = true) (hcy : s.vm.findClass (FieldType.array ty).toString = some cy)
    (hK : va_K D cl tys s) (hP : va_P D cl (X ++ va_pl L f) H) (hD : va_D A (X ++ va_pl L f)) (hS : va_S A H0 H locs) (hA : ∀ q, H0.size ≤ q → A q) {n k : Int32} {N' K' : Nat} {z : vp_A} (hn : ¬ n < 0) (hk : ¬ k < 0) (hN : n.toNatClampNeg = N') (hM : k.toNatClampNeg = K')
    (hb1 : N' * 4 ≤ 536870912) (hb2 : K' * componentBytes ty ≤ 536870912) (hb3 : K' ≤ 536870912) (hdf : fits ty (defaultValue ty) = true) (hdd : (defaultValue ty).isDefault = true) (hcells : cells + (1 + N') ≤ R.cells) (hslots : slots + (N' + N' * K') ≤ R.slots) (hz : ∀ c : ClassId, Jvm.Free.Multi.innerC c K' (defaultValue ty) = vp_cell c z) (hdg : decode cc pc = .ok (.multianewarray index 2, 4))
    (kk : ∀ (q : Nat) (r : Nat → Nat) (cA : ClassId) (H1 : Heap), (∀ i j : Nat, i < N' → j < N' → r i = r j → i = j) → (∀ i : Nat, i < N' → r i ∉ L) → va_K D cl (tys ++ [(cA, .array ty)]) s →
      va_P D cl ((X ++ [(q, .inl (cA, N', .inr (.inr (.inr (.inr (fun i => if i < N' then some (r i) else none))))))]) ++ va_pl (L ++ (List.range N').map r) (vr_up f ((List.range N').map r) (.inl (cy, z)))) H1 → va_D A ((X ++ [(q, .inl (cA, N', .inr (.inr (.inr (.inr (fun i => if i < N' then some (r i) else none))))))]) ++ va_pl (L ++ (List.range N').map r) (vr_up f ((List.range N').map r) (.inl (cy, z)))) → va_S A H0 H1 locs →
      W p l e R s m args below meth c H1 locs (cells + 1 + N') (slots + N' + N' * K') Q (F0 m (pc + 4) ls (.ref q :: rest))) : W p l e R s m args below meth c H locs cells slots Q (F0 m pc ls (.int k :: .int n :: rest)) := by
  subst hN
  subst hM
  intro T hT Xs
  obtain ⟨vm₁, cA, comp, -, fA, fC, hO, -, X', step⟩ := Xs.multianewarray2F hexec hown hclink (va_AOA.use hover) harr (g := F0 m pc ls (.int k :: .int n :: rest)) rfl (by rw [hb]; exact hdg) rfl hn hk hb1 hb2 hb3 hdf hdd hcells hslots
  have ec : some cy = some comp := hcy.symm.trans fC
  cases ec
  generalize hF : Jvm.Free.Multi.fill (T.setVm vm₁) cA cy n.toNatClampNeg k.toNatClampNeg (defaultValue ty) n.toNatClampNeg = F at X' step
  have hTh : (T.setVm vm₁).heap = H := hT
  obtain ⟨f1, f2, -, -⟩ := Jvm.Free.Multi.fill_facts (T.setVm vm₁) cA cy n.toNatClampNeg k.toNatClampNeg (defaultValue ty) n.toNatClampNeg
  rw [hF, hTh] at f1 f2
  have hold : ∀ x : Nat, x < H.size → F.heap[x]? = H[x]? := fun x hx => by
    have := Jvm.Free.Multi.fill_old (T.setVm vm₁) cA cy n.toNatClampNeg k.toNatClampNeg (defaultValue ty) (a := x) (by rw [hTh]; exact hx) n.toNatClampNeg
    rw [hF, hTh] at this
    exact this
  have hrow : ∀ j : Nat, j < n.toNatClampNeg → F.heap[H.size + 1 + j]? = some (vp_cell cy z) := fun j hj => by
    have := Jvm.Free.Multi.fill_inner (T.setVm vm₁) cA cy n.toNatClampNeg k.toNatClampNeg (defaultValue ty) n.toNatClampNeg j hj
    rw [hF, hTh, hz] at this
    exact this
  have hout : Jvm.Free.Multi.outerC cA n.toNatClampNeg H.size n.toNatClampNeg = vp_cell cA (n.toNatClampNeg, .inr (.inr (.inr (.inr (fun i => if i < n.toNatClampNeg then some (H.size + 1 + i) else none))))) := by
    rw [vp_cell_q]
    exact vr_outer cA n.toNatClampNeg H.size n.toNatClampNeg
  rw [hout] at f2
  have hlt : ∀ a, a ∈ L → a < H.size := fun a ha => by
    obtain ⟨k9, hk9⟩ := va_pl_get (X := X) (f := f) ha
    exact (hP k9 _ hk9).lt
  have hnl : ∀ i : Nat, i < n.toNatClampNeg → H.size + 1 + i ∉ L := fun i _ h => by
    have := hlt _ h
    omega
  have hnm : ∀ a, a ∈ (List.range n.toNatClampNeg).map (fun i => H.size + 1 + i) → a ∉ L := fun a ha h => by
    obtain ⟨i, -, rfl⟩ := List.mem_map.mp ha
    have := hlt _ h
    omega
  have hP0 : va_P D cl (X ++ va_pl L f) F.heap := hP.kept (fun k9 x hx => hold x.1 ((hP k9 x hx).lt))
  have hP1 : va_P D cl ((X ++ va_pl L f) ++ [(H.size, .inl (cA, n.toNatClampNeg, .inr (.inr (.inr (.inr (fun i => if i < n.toNatClampNeg then some (H.size + 1 + i) else none))))))]) F.heap := hP0.app (fun k9 x hx => by
    have h0 : k9 < 1 := (List.getElem?_eq_some_iff.mp hx).1
    rw [show k9 = 0 by omega] at hx
    cases hx
    exact f2)
  have hP2 : va_P D cl (((X ++ va_pl L f) ++ [(H.size, .inl (cA, n.toNatClampNeg, .inr (.inr (.inr (.inr (fun i => if i < n.toNatClampNeg then some (H.size + 1 + i) else none))))))]) ++ ((List.range n.toNatClampNeg).map (fun i => H.size + 1 + i)).map (fun a => (a, .inl (cy, z)))) F.heap := hP1.app (fun k9 x hx => by
    obtain ⟨a, ha, rfl⟩ := List.mem_map.mp (List.mem_of_getElem? hx)
    obtain ⟨i, hi, rfl⟩ := List.mem_map.mp ha
    exact hrow i (List.mem_range.mp hi))
  have hD2 : va_D A (((X ++ va_pl L f) ++ [(H.size, .inl (cA, n.toNatClampNeg, .inr (.inr (.inr (.inr (fun i => if i < n.toNatClampNeg then some (H.size + 1 + i) else none))))))]) ++ ((List.range n.toNatClampNeg).map (fun i => H.size + 1 + i)).map (fun a => (a, .inl (cy, z)))) := by
    have hD1 := hD.push (e := .inl (cA, n.toNatClampNeg, .inr (.inr (.inr (.inr (fun i => if i < n.toNatClampNeg then some (H.size + 1 + i) else none)))))) hP rfl (hA _ hS.1)
    generalize hW1 : (X ++ va_pl L f) ++ [(H.size, .inl (cA, n.toNatClampNeg, .inr (.inr (.inr (.inr (fun i => if i < n.toNatClampNeg then some (H.size + 1 + i) else none))))))] = W1 at hD1 hP1 ⊢
    have hle : ∀ (k9 : Nat) (x : Nat × va_E), W1[k9]? = some x → x.1 ≤ H.size := fun k9 x hx => by
      rw [← hW1] at hx
      by_cases hl : k9 < (X ++ va_pl L f).length
      · rw [List.getElem?_append_left hl] at hx
        exact Nat.le_of_lt ((hP k9 x hx).lt)
      · rw [List.getElem?_append_right (by omega)] at hx
        have h0 : k9 - (X ++ va_pl L f).length < 1 := (List.getElem?_eq_some_iff.mp hx).1
        rw [show k9 - (X ++ va_pl L f).length = 0 by omega] at hx
        cases hx
        exact Nat.le_refl _
    have hr : ∀ (k9 : Nat) (x : Nat × va_E), (((List.range n.toNatClampNeg).map (fun i => H.size + 1 + i)).map (fun a => ((a, .inl (cy, z)) : Nat × va_E)))[k9]? = some x → x.1 = H.size + 1 + k9 := fun k9 x hx => by
      rw [List.getElem?_map, List.getElem?_map] at hx
      by_cases h9 : k9 < n.toNatClampNeg
      · rw [List.getElem?_range h9] at hx
        cases hx
        rfl
      · have hn0 : (List.range n.toNatClampNeg)[k9]? = none := List.getElem?_eq_none (by rw [List.length_range]; omega)
        rw [hn0] at hx
        cases hx
    refine ⟨fun i j x y hi hj hxy => ?_, fun k9 x hx => ?_⟩
    · by_cases h1 : i < W1.length <;> by_cases h2 : j < W1.length
      · rw [List.getElem?_append_left h1] at hi
        rw [List.getElem?_append_left h2] at hj
        exact hD1.1 i j x y hi hj hxy
      · rw [List.getElem?_append_left h1] at hi
        rw [List.getElem?_append_right (by omega)] at hj
        have := hle _ _ hi
        have := hr _ _ hj
        omega
      · rw [List.getElem?_append_right (by omega)] at hi
        rw [List.getElem?_append_left h2] at hj
        have := hle _ _ hj
        have := hr _ _ hi
        omega
      · rw [List.getElem?_append_right (by omega)] at hi hj
        have := hr _ _ hi
        have := hr _ _ hj
        omega
    · by_cases h1 : k9 < W1.length
      · rw [List.getElem?_append_left h1] at hx
        exact hD1.2 k9 x hx
      · rw [List.getElem?_append_right (by omega)] at hx
        have := hr _ _ hx
        exact hA _ (by have := hS.1; omega)
  have hAr : ArrOfT s cA (.array ty) := fun N9 z9 => by
    obtain ⟨-, k9, hk9, cm9, hkk9⟩ := (hO 0 0 0).1
    exact ⟨(fun q hq => by cases hq), k9, hk9, cm9, hkk9⟩
  have hK2 : va_K D cl (tys ++ [(cA, .array ty)]) s := ⟨hK.1, fun k9 x hx => by
    by_cases hl : k9 < tys.length
    · rw [List.getElem?_append_left hl] at hx
      exact hK.2 k9 x hx
    · rw [List.getElem?_append_right (by omega)] at hx
      have h0 : k9 - tys.length < 1 := (List.getElem?_eq_some_iff.mp hx).1
      rw [show k9 - tys.length = 0 by omega] at hx
      cases hx
      exact ⟨hAr, fA⟩⟩
  obtain ⟨t, a1, b1⟩ := kk H.size (fun i => H.size + 1 + i) cA F.heap (fun i j _ _ h => by have h9 : H.size + 1 + i = H.size + 1 + j := h; omega) hnl hK2 (by rw [← vr_rows hnm]; exact vr_lay hP2) (by rw [← vr_rows hnm]; exact vr_layD hD2) ⟨by rw [f1]; have := hS.1; omega, fun x h1 h2 => (hold x (Nat.lt_of_lt_of_le h1 hS.1)).trans (hS.2.1 x h1 h2), hS.2.2⟩ F rfl X'
  refine ⟨t, step t ?_, b1⟩
  have e : T.heap.size = H.size := by rw [hT]
  rw [e]
  exact a1
end VGM
/-! ===== END ===== -/
end
section
/-! what all contracts share: one list of words, one picture of the tables, the ways in, out and through a call -/
abbrev CL : List vw_C := [(RX0, TX0, 4), (RX2, TX2, 4), (RX3, TX3, 7), (RX4, TX4, 13), (RX5, TX5, 9), (RX6, TX6, 35)]
def BIG : List Cond := lw_tbl.filter goodWord
theorem big_of {w : Cond} (h : w ∈ lw_tbl) (g : goodWord w = true) : w ∈ BIG := List.mem_filter.mpr ⟨h, g⟩
theorem big_t {w : Cond} (i : Nat) (h : tables_1[i]? = some w) (g : goodWord w = true) : w ∈ BIG := big_of (List.mem_append_right _ (List.mem_of_getElem? h)) g
theorem big_s {w : Cond} (i : Nat) (h : (k2_sels lw_privs)[i]? = some w) (g : goodWord w = true) : w ∈ BIG := big_of (List.mem_append_left _ (List.mem_of_getElem? h)) g
theorem big_good : GoodIn BIG BIG := fun w h => ⟨h, good_of_word (List.mem_filter.mp h).2⟩
theorem gB {c : Cond} (h : c ∈ BIG) : GoodIn BIG (c :: BIG) := fun w hw => by
  rcases List.mem_cons.mp hw with rfl | hw
  · exact big_good _ h
  · exact big_good _ hw
abbrev tysA (cy : Nat → ClassId) : List (ClassId × FieldType) := [(cy 0, .int), (cy 1, .long), (cy 2, .byte), (cy 3, .array .int), (cy 4, .array .long), (cy 5, .object RX6)]
abbrev AO0 : String := "EachBookOnce"
def nestF : List (String × Nat × String × String × String) := [(RX3, 77, "EachBookOnce$Town", "books", "I"), (RX1, 54, "EachBookOnce$Town", "books", "I"), (RX0, 70, "EachBookOnce$Town", "books", "I"), (RX5, 127, "EachBookOnce$Town", "books", "I"), (RX1, 40, "EachBookOnce$Town", "people", "I"), (RX0, 49, "EachBookOnce$Town", "people", "I"), (RX3, 98, "EachBookOnce$Town", "people", "I"), (RX5, 141, "EachBookOnce$Town", "people", "I"), (RX0, 73, "EachBookOnce$Town", "white", "I"), (RX3, 115, "EachBookOnce$Town", "white", "I"), (RX5, 180, "EachBookOnce$Town", "white", "I"), (RX1, 44, "EachBookOnce$Town", "gone", "I"), (RX5, 207, "EachBookOnce$Town", "gone", "I"), (RX5, 341, "EachBookOnce$Town", "luck", "I"), (RX5, 171, "EachBookOnce$Town", "worth", "[I"), (RX3, 95, "EachBookOnce$Town", "needed", "[I"), (RX5, 174, "EachBookOnce$Town", "needed", "[I"), (RX3, 89, "EachBookOnce$Town", "good", "[I"), (RX5, 177, "EachBookOnce$Town", "good", "[I"), (RX5, 195, "EachBookOnce$Town", "age", "[I"), (RX5, 198, "EachBookOnce$Town", "reading", "[I"), (RX5, 201, "EachBookOnce$Town", "memory", "[I"), (RX5, 204, "EachBookOnce$Town", "telling", "[I"), (RX5, 261, "EachBookOnce$Plans", "trial", "LEachBookOnce$Town;"), (RX5, 258, "EachBookOnce$Plans", "lastValue", "I"), (RX5, 291, "EachBookOnce$Plans", "bestSum", "I"), (RX5, 90, "EachBookOnce$Shelves", "holding", "[I"), (RX5, 67, "EachBookOnce$Shelves", "size", "[I"), (RX5, 112, "EachBookOnce$Shelves", "amount", "[I"), (RX5, 148, "EachBookOnce$Tape", "size", "I"), (RX5, 158, "EachBookOnce$Tape", "fault", "I"), (RX5, 161, "EachBookOnce$Tape", "draft", "LEachBookOnce$Town;")]
def nestM : List (String × Nat × MethodName) := [(RX5, 9, yX4_init), (RX5, 21, yX0_init), (RX0, 11, yX4_init), (RX5, 35, yX3_init), (RX3, 17, yX4_init), (RX4, 62, yX5_has), (RX4, 58, yX5_setOfAll), (RX1, 47, yX5_has), (RX0, 52, yX5_has)]
def strW : List (String × Nat × String) := [(RX3, 48, "book"), (RX3, 84, "good"), (RX3, 57, "need"), (RX3, 62, "one"), (RX3, 101, "reads"), (RX3, 103, "keeps"), (RX3, 105, "tells"), (RX3, 67, "knows"), (RX3, 72, "white"), (RX6, 198, "book"), (RX6, 199, "good"), (RX6, 204, "one"), (RX6, 205, "reads"), (RX6, 207, "keeps"), (RX6, 209, "tells"), (RX6, 210, "need"), (RX6, 212, "knows"), (RX6, 214, "white")]
def KN (G : va_G) (cy : Nat → ClassId) (U : State) : Prop := va_K G CL (tysA cy) U ∧ (∀ q ∈ nestF, va_Nw (.fieldLinkNest q.1 q.2.1 q.2.2.1 q.2.2.2.1 q.2.2.2.2 AO0) U) ∧ (∀ q ∈ nestM, va_Nw (.methodLinkNest q.1 q.2.1 q.2.2 AO0) U) ∧ (∀ q ∈ strW, ∃ a : Nat, vk_R q.1 q.2.1 q.2.2 a U) ∧ va_AO RX6 U ∧ va_AOA .int U ∧ va_AOA .long U
theorem KN.warm {G : va_G} {cy : Nat → ClassId} {s U : State} (hW : s.WarmedH U.vm) (h : KN G cy s) : KN G cy U :=
  ⟨va_K.moved hW.alike h.1, fun q hq => va_Nw.warmF hW (h.2.1 q hq), fun q hq => va_Nw.warmM hW (h.2.2.1 q hq), fun q hq => (h.2.2.2.1 q hq).elim fun a ha => ⟨a, vk_R.warm hW ha⟩, va_AO.moved hW.alike h.2.2.2.2.1, va_AOA.moved hW.alike h.2.2.2.2.2.1, va_AOA.moved hW.alike h.2.2.2.2.2.2⟩
theorem KN.call {G : va_G} {cy : Nat → ClassId} {U : State} {g : JFrame} {mk : MethodId} {a : Array Value} (h : KN G cy U) : KN G cy (U.calling g mk a) :=
  ⟨va_K.moved (Vm.Alike.refl U.vm) h.1, fun q hq => va_Nw.same rfl rfl (h.2.1 q hq), fun q hq => va_Nw.same rfl rfl (h.2.2.1 q hq), fun q hq => (h.2.2.2.1 q hq).elim fun a ha => ⟨a, vk_R.same rfl ha⟩, va_AO.moved (Vm.Alike.refl U.vm) h.2.2.2.2.1, va_AOA.moved (Vm.Alike.refl U.vm) h.2.2.2.2.2.1, va_AOA.moved (Vm.Alike.refl U.vm) h.2.2.2.2.2.2⟩
/-- the starts: a method that only reads, a method that writes -/
def Rd (G : va_G) (cy : Nat → ClassId) (ws : va_W) (av : List Value) : Array Value → State → Prop := va_Pc av (fun U => va_P G CL ws U.heap ∧ KN G cy U)
def Wr (G : va_G) (cy : Nat → ClassId) (ws : va_W) (sz : Nat) (av : List Value) : Array Value → State → Prop := va_Pc av (fun U => U.heap.size = sz ∧ va_P G CL ws U.heap ∧ KN G cy U ∧ va_D (fun _ => True) ws)
theorem Rd.blind {G : va_G} {cy : Nat → ClassId} {ws : va_W} {av : List Value} : FrameBlind (Rd G cy ws av) := fun _ _ _ _ q => ⟨q.1, q.2.1, q.2.2.call⟩
theorem Wr.blind {G : va_G} {cy : Nat → ClassId} {ws : va_W} {sz : Nat} {av : List Value} : FrameBlind (Wr G cy ws sz av) := fun _ _ _ _ q => ⟨q.1, q.2.1, q.2.2.1, q.2.2.2.1.call, q.2.2.2.2⟩
def Bw (G : va_G) (A : Nat → Prop) : va_W → State → Prop := fun u t => va_P G CL u t.heap ∧ va_D A u
abbrev Rm (d mc ms : Nat) : Room := { frames := d, cells := mc, slots := ms, locals := 60 * d }
abbrev MR (l : Launch) (y : MethodName) (cc : ByteArray) (n : Nat) (ret : Option FieldType) (d : Nat) (G : va_G) (cy : Nat → ClassId) (ws : va_W) (av : List Value) (Qc : Array Value → State → Outcome → State → Prop) : Prop := Met l y (.code y cc n ret :: BIG) (Rm d 0 0) (Rd G cy ws av) Qc 0 0 (fun _ => False)
abbrev MW (l : Launch) (y : MethodName) (cc : ByteArray) (n : Nat) (ret : Option FieldType) (d mc ms : Nat) (G : va_G) (cy : Nat → ClassId) (ws : va_W) (sz : Nat) (av : List Value) (QA : (Nat → Prop) → Array Value → State → Outcome → State → Prop) : Prop := Met l y (.code y cc n ret :: BIG) (Rm d mc ms) (Wr G cy ws sz av) (QA (va_A ws sz)) mc ms (va_A ws sz)
/-- the ends of a method that writes -/
abbrev Wi (G : va_G) (post : Int32 → va_W → Prop) : (Nat → Prop) → Array Value → State → Outcome → State → Prop := fun A => va_Qi post (Bw G A) A
abbrev Wv (G : va_G) (post : va_W → Prop) : (Nat → Prop) → Array Value → State → Outcome → State → Prop := fun A => va_Qv post (Bw G A) A
abbrev Wq (G : va_G) (post : Nat → va_W → Prop) : (Nat → Prop) → Array Value → State → Outcome → State → Prop := fun A => va_Qr (fun _ : va_W => True) (fun u a t => Bw G A u t ∧ post a u) A
theorem enR {l : Launch} {y : MethodName} {cc : ByteArray} {n : Nat} {ret : Option FieldType} {d : Nat} {G : va_G} {cy : Nat → ClassId} {ws : va_W} {av : List Value} {Qc : Array Value → State → Outcome → State → Prop} (own : String) (hy : plainName y.cls = true) (ho : y.cls = own) (hn : (lg_sl av).length ≤ n)
    (body : ∀ (p : Program) (e : Env) (s : State) (m : MethodId) (below : List Frame) (meth : Method) (c : Code) (ls : Array Slot), p.tables.exec = Jvm.exec → c.code = cc → c.maxLocals = n → s.vm.findClass own = some m.cls → (∀ w ∈ BIG, w.before av.toArray s = true) → meth.sig.returnType = ret → meth.locks = false → va_P G CL ws s.heap → KN G cy s → lv_has ls n (lv_args 0 av) →
      W p l e (Rm d 0 0) s m av.toArray below meth c s.heap [] 0 0 (MQ below Qc av.toArray s 0 0 (fun _ => False)) (F0 m 0 ls [])) : MR l y cc n ret d G cy ws av Qc := by
  refine Met.ofW (cc := cc) (maxL := n) (ret := ret) hy rfl ?_
  intro p e s m args below meth c s₁ B hml hv
  obtain ⟨rfl, hP, hN⟩ := hv
  have hts := atoms_spec (ws := .code y cc n ret :: BIG) B.pre
  have hown : s.vm.findClass own = some m.cls := by rw [← ho]; exact findClass_of_methodNamed B.named
  rw [lg_entry_eq]
  exact body p e s m below meth c _ B.exec B.bytes hml hown (fun w h => hts w (List.mem_cons_of_mem _ h)) B.returns B.notSynchronized hP hN (lv_entry av hn)
theorem enW {l : Launch} {y : MethodName} {cc : ByteArray} {n : Nat} {ret : Option FieldType} {d mc ms : Nat} {G : va_G} {cy : Nat → ClassId} {ws : va_W} {sz : Nat} {av : List Value} {QA : (Nat → Prop) → Array Value → State → Outcome → State → Prop} (own : String) (hy : plainName y.cls = true) (ho : y.cls = own) (hn : (lg_sl av).length ≤ n)
    (body : ∀ (p : Program) (e : Env) (s : State) (m : MethodId) (below : List Frame) (meth : Method) (c : Code) (ls : Array Slot) (A : Nat → Prop), p.tables.exec = Jvm.exec → c.code = cc → c.maxLocals = n → s.vm.findClass own = some m.cls → (∀ w ∈ BIG, w.before av.toArray s = true) → meth.sig.returnType = ret → meth.locks = false → va_P G CL ws s.heap → KN G cy s → lv_has ls n (lv_args 0 av) → meth.name = y.name →
      va_D A ws → (∀ q : Nat, s.heap.size ≤ q → A q) → va_S A s.heap s.heap [] →
      W p l e (Rm d mc ms) s m av.toArray below meth c s.heap [] 0 0 (MQ below (QA A) av.toArray s mc ms A) (F0 m 0 ls [])) : MW l y cc n ret d mc ms G cy ws sz av QA := by
  refine Met.ofW (cc := cc) (maxL := n) (ret := ret) hy rfl ?_
  intro p e s m args below meth c s₁ B hml hv
  obtain ⟨rfl, hsz, hP, hN, hD0⟩ := hv
  have hts := atoms_spec (ws := .code y cc n ret :: BIG) B.pre
  have hown : s.vm.findClass own = some m.cls := by rw [← ho]; exact findClass_of_methodNamed B.named
  subst hsz
  rw [lg_entry_eq]
  exact body p e s m below meth c _ _ B.exec B.bytes hml hown (fun w h => hts w (List.mem_cons_of_mem _ h)) B.returns B.notSynchronized hP hN (lv_entry av hn) (name_of_methodNamed B.named B.method).1 hD0.self (fun q h => Or.inr h) va_S.rf
/-- the links of a call -/
abbrev LkD (y : MethodName) (k : Nat) : Prop := y.cls ≠ "java/lang/invoke/MethodHandle" ∧ y.cls ≠ "java/lang/invoke/VarHandle" ∧ (parseMethodDescriptor y.desc).map (fun d => d.parameters.length) = some k
def LkV (own : String) (index : Nat) (C : String) (y : MethodName) (bytes : ByteArray) (maxL : Nat) (ret : Option FieldType) (k : Nat) : Prop := Cond.methodLink own index y ∈ BIG ∧ Cond.initialized y.cls ∈ BIG ∧ Cond.code y bytes maxL ret ∈ BIG ∧ LkD y k ∧ Cond.instanceMethod y ∈ BIG ∧ Cond.selects C y y ∈ BIG
def LkS (own : String) (index : Nat) (y : MethodName) (bytes : ByteArray) (maxL : Nat) (ret : Option FieldType) (k : Nat) : Prop := Cond.methodLink own index y ∈ BIG ∧ Cond.initialized y.cls ∈ BIG ∧ Cond.code y bytes maxL ret ∈ BIG ∧ LkD y k ∧ Cond.static y ∈ BIG
def LkI (own : String) (index : Nat) (y : MethodName) (bytes : ByteArray) (maxL : Nat) (k : Nat) : Prop := Cond.methodLink own index y ∈ BIG ∧ Cond.initialized y.cls ∈ BIG ∧ Cond.code y bytes maxL none ∈ BIG ∧ LkD y k ∧ y.name = "<init>" ∧ Cond.instanceMethod y ∈ BIG
def LkSN (own : String) (index : Nat) (y : MethodName) (bytes : ByteArray) (maxL : Nat) (ret : Option FieldType) (k : Nat) : Prop := (own, index, y) ∈ nestM ∧ Cond.initialized y.cls ∈ BIG ∧ Cond.code y bytes maxL ret ∈ BIG ∧ LkD y k ∧ Cond.static y ∈ BIG
def LkIN (own : String) (index : Nat) (y : MethodName) (bytes : ByteArray) (maxL : Nat) (k : Nat) : Prop := (own, index, y) ∈ nestM ∧ Cond.initialized y.cls ∈ BIG ∧ Cond.code y bytes maxL none ∈ BIG ∧ LkD y k ∧ y.name = "<init>" ∧ Cond.instanceMethod y ∈ BIG
section BCALL
variable {p : Program} {l : Launch} {e : Env} {R : Room} {s : State} {m : MethodId} {args : Array Value} {below : List Frame} {meth : Method} {c : Code} {H : Heap} {locs : List Loc} {cells slots : Nat} {Q : State → Prop}
variable {y : MethodName} {bytes cc : ByteArray} {maxL nL mc ms index d pc : Nat} {ret : Option FieldType} {Pc : Array Value → State → Prop} {Qc : Array Value → State → Outcome → State → Prop} {free : Addr → Prop} {own C : String} {b : Addr} {As rest st0 : List Value} {ls : Array Slot} {G : va_G} {cy : Nat → ClassId}
theorem rV (S : CallFix p m c cc nL s args BIG own) (hM : Met l y (.code y bytes maxL ret :: BIG) (Rm d mc ms) Pc Qc mc ms free) (L : LkV own index C y bytes maxL ret As.length) (hp : PreV s H C b Pc As) (hst : st0 = As.reverse ++ .ref b :: rest)
    (hR : d + 1 ≤ R.frames ∧ 8 + (maxL + 11) + 60 * d ≤ R.locals) (hsize : ls.size = nL) (hW : (rest.map fun v => v.category).sum ≤ 8) (hdg : decode cc pc = .ok (.invokevirtual index, 3)) (hf : cells + mc ≤ R.cells ∧ slots + ms ≤ R.slots) :
    va_Run p l e R s m args below meth c H locs cells slots mc ms (F0 m pc ls st0) rest (Qc (Value.ref b :: As).toArray) free := by
  obtain ⟨k1, k2, k3, k4, k5, k6⟩ := L
  have hts := S.2.2.2.2
  exact va_runV S hM ⟨callB_of As.length hts (gB k3) rfl rfl rfl (hts _ k2) (hts _ k1) k4 hR, hts _ k5, hts _ k6⟩ hp rfl rfl hsize hst (lv_room hW) hdg hf
theorem rS (S : CallFix p m c cc nL s args BIG own) (hM : Met l y (.code y bytes maxL ret :: BIG) (Rm d mc ms) Pc Qc mc ms free) (L : LkS own index y bytes maxL ret As.length) (hp : PreS s H Pc As) (hst : st0 = As.reverse ++ rest)
    (hR : d + 1 ≤ R.frames ∧ 8 + (maxL + 11) + 60 * d ≤ R.locals) (hsize : ls.size = nL) (hW : (rest.map fun v => v.category).sum ≤ 8) (hdg : decode cc pc = .ok (.invokestatic index, 3)) (hf : cells + mc ≤ R.cells ∧ slots + ms ≤ R.slots) :
    va_Run p l e R s m args below meth c H locs cells slots mc ms (F0 m pc ls st0) rest (Qc As.toArray) free := by
  obtain ⟨k1, k2, k3, k4, k5⟩ := L
  have hts := S.2.2.2.2
  exact va_runS S hM ⟨callB_of As.length hts (gB k3) rfl rfl rfl (hts _ k2) (hts _ k1) k4 hR, hts _ k5⟩ hp rfl rfl hsize hst (lv_room hW) hdg hf
theorem rI (S : CallFix p m c cc nL s args BIG own) (hM : Met l y (.code y bytes maxL none :: BIG) (Rm d mc ms) Pc Qc mc ms free) (L : LkI own index y bytes maxL As.length) (hp : PreS s H Pc (.ref b :: As)) (hst : st0 = As.reverse ++ .ref b :: rest)
    (hR : d + 1 ≤ R.frames ∧ 8 + (maxL + 11) + 60 * d ≤ R.locals) (hsize : ls.size = nL) (hW : (rest.map fun v => v.category).sum ≤ 8) (hdg : decode cc pc = .ok (.invokespecial index, 3)) (hf : cells + mc ≤ R.cells ∧ slots + ms ≤ R.slots) :
    va_Run p l e R s m args below meth c H locs cells slots mc ms (F0 m pc ls st0) rest (Qc (Value.ref b :: As).toArray) free := by
  obtain ⟨k1, k2, k3, k4, k5, k6⟩ := L
  have hts := S.2.2.2.2
  exact va_runI S hM ⟨callB_of As.length hts (gB k3) rfl rfl rfl (hts _ k2) (hts _ k1) k4 hR, k5, hts _ k6⟩ hp rfl rfl hsize hst (lv_room hW) hdg hf
theorem rSN (S : CallFix p m c cc nL s args BIG own) (hN : KN G cy s) (hM : Met l y (.code y bytes maxL ret :: BIG) (Rm d mc ms) Pc Qc mc ms free) (L : LkSN own index y bytes maxL ret As.length) (hp : PreS s H Pc As) (hst : st0 = As.reverse ++ rest)
    (hR : d + 1 ≤ R.frames ∧ 8 + (maxL + 11) + 60 * d ≤ R.locals) (hsize : ls.size = nL) (hW : (rest.map fun v => v.category).sum ≤ 8) (hdg : decode cc pc = .ok (.invokestatic index, 3)) (hf : cells + mc ≤ R.cells ∧ slots + ms ≤ R.slots) :
    va_Run p l e R s m args below meth c H locs cells slots mc ms (F0 m pc ls st0) rest (Qc As.toArray) free := by
  obtain ⟨k1, k2, k3, k4, k5⟩ := L
  have hts := S.2.2.2.2
  exact va_runSN S hM ⟨va_cnB As.length hts (gB k3) rfl rfl rfl (hN.2.2.1 _ k1) (hts _ k2) k4 hR, hts _ k5, trivial⟩ hp rfl rfl hsize hst (lv_room hW) hdg hf
theorem rIN (S : CallFix p m c cc nL s args BIG own) (hN : KN G cy s) (hM : Met l y (.code y bytes maxL none :: BIG) (Rm d mc ms) Pc Qc mc ms free) (L : LkIN own index y bytes maxL As.length) (hp : PreS s H Pc (.ref b :: As)) (hst : st0 = As.reverse ++ .ref b :: rest)
    (hR : d + 1 ≤ R.frames ∧ 8 + (maxL + 11) + 60 * d ≤ R.locals) (hsize : ls.size = nL) (hW : (rest.map fun v => v.category).sum ≤ 8) (hdg : decode cc pc = .ok (.invokespecial index, 3)) (hf : cells + mc ≤ R.cells ∧ slots + ms ≤ R.slots) :
    va_Run p l e R s m args below meth c H locs cells slots mc ms (F0 m pc ls st0) rest (Qc (Value.ref b :: As).toArray) free := by
  obtain ⟨k1, k2, k3, k4, k5, k6⟩ := L
  have hts := S.2.2.2.2
  exact va_runIN S hM ⟨va_cnB As.length hts (gB k3) rfl rfl rfl (hN.2.2.1 _ k1) (hts _ k2) k4 hR, k5, hts _ k6⟩ hp rfl rfl hsize hst (lv_room hW) hdg hf
/-- what a call wants of the caller's world -/
theorem preRV {ws wc : va_W} {q : vw_C} {fs : List Value} (hN : KN G cy s) (hP : va_P G CL ws H) (isC : List Nat) (hC : isC.filterMap (fun i => ws[i]?) = wc) (qr ci : Nat) (he : ws[qr]? = some (b, .inr (ci, fs))) (hc : CL[ci]? = some q) : PreV s H q.1 b (Rd G cy wc (.ref b :: As)) As :=
  ⟨Rd.blind, va_recv hN.1 hP hc he, fun U hU hW => ⟨rfl, by rw [hU]; exact hP.sub isC hC, hN.warm hW⟩⟩
theorem preRS {ws wc : va_W} (hN : KN G cy s) (hP : va_P G CL ws H) (isC : List Nat) (hC : isC.filterMap (fun i => ws[i]?) = wc) : PreS s H (Rd G cy wc As) As :=
  ⟨Rd.blind, fun U hU hW => ⟨rfl, by rw [hU]; exact hP.sub isC hC, hN.warm hW⟩⟩
theorem va_sub2 {ws wc : va_W} {isC : List Nat} (hC : isC.map (fun i => ws[i]?) = wc.map some) : isC.filterMap (fun i => ws[i]?) = wc := by
  induction isC generalizing wc with
  | nil => cases wc with
    | nil => rfl
    | cons a t => simp at hC
  | cons i t ih => cases wc with
    | nil => simp at hC
    | cons a u =>
      simp only [List.map_cons, List.cons.injEq] at hC
      rw [List.filterMap_cons, hC.1, ih hC.2]
theorem preWV {ws wc : va_W} {q : vw_C} {fs : List Value} {A : Nat → Prop} (hN : KN G cy s) (hP : va_P G CL ws H) (hD : va_D A ws) (isC : List Nat) (hC : isC.map (fun i => ws[i]?) = wc.map some) (hn : va_nd isC = true) (qr ci : Nat) (he : ws[qr]? = some (b, .inr (ci, fs))) (hc : CL[ci]? = some q) : PreV s H q.1 b (Wr G cy wc H.size (.ref b :: As)) As :=
  ⟨Wr.blind, va_recv hN.1 hP hc he, fun U hU hW => ⟨rfl, by rw [hU], by rw [hU]; exact hP.sub isC (va_sub2 hC), hN.warm hW, (hD.sub isC hn hC).weaken (fun _ _ _ _ => trivial)⟩⟩
theorem preWS {ws wc : va_W} {A : Nat → Prop} (hN : KN G cy s) (hP : va_P G CL ws H) (hD : va_D A ws) (isC : List Nat) (hC : isC.map (fun i => ws[i]?) = wc.map some) (hn : va_nd isC = true) : PreS s H (Wr G cy wc H.size As) As :=
  ⟨Wr.blind, fun U hU hW => ⟨rfl, by rw [hU], by rw [hU]; exact hP.sub isC (va_sub2 hC), hN.warm hW, (hD.sub isC hn hC).weaken (fun _ _ _ _ => trivial)⟩⟩
variable {a : Array Value}
theorem kRi {post : Int32 → Prop} (hr : va_Run p l e R s m args below meth c H locs cells slots 0 0 (F0 m pc ls st0) rest (vp_Si post a) (fun _ => False))
    (kk : ∀ r : Int32, post r → W p l e R s m args below meth c H locs cells slots Q (F0 m (pc + 3) ls (.int r :: rest))) : W p l e R s m args below meth c H locs cells slots Q (F0 m pc ls st0) := by
  intro T hT X
  obtain ⟨v, st₀, t, T', L, h0, X', hL, e1, e2, ⟨r, hv, hp, hh⟩, st⟩ := hr T hT X
  cases hv
  obtain ⟨t2, a1, b1⟩ := kk r hp T' (by rw [e1, hh, h0]) (Stand.forget X' (fun q h => (hL q h).elim))
  exact ⟨t2, st t2 a1, b1⟩
theorem kRl {post : Int64 → Prop} (hr : va_Run p l e R s m args below meth c H locs cells slots 0 0 (F0 m pc ls st0) rest (vp_Sl post a) (fun _ => False))
    (kk : ∀ r : Int64, post r → W p l e R s m args below meth c H locs cells slots Q (F0 m (pc + 3) ls (.long r :: rest))) : W p l e R s m args below meth c H locs cells slots Q (F0 m pc ls st0) := by
  intro T hT X
  obtain ⟨v, st₀, t, T', L, h0, X', hL, e1, e2, ⟨r, hv, hp, hh⟩, st⟩ := hr T hT X
  cases hv
  obtain ⟨t2, a1, b1⟩ := kk r hp T' (by rw [e1, hh, h0]) (Stand.forget X' (fun q h => (hL q h).elim))
  exact ⟨t2, st t2 a1, b1⟩
variable {ws wc wr : va_W} {A : Nat → Prop} {H0 : Heap}
theorem kWi {post : Int32 → va_W → Prop} (hr : va_Run p l e R s m args below meth c H locs cells slots mc ms (F0 m pc ls st0) rest (Wi G post (va_A wc H.size) a) (va_A wc H.size)) (hP : va_P G CL ws H) (hD : va_D A ws) (hS : va_S A H0 H locs) (hA : ∀ q, H0.size ≤ q → A q)
    (isC isR : List Nat) (hC : isC.map (fun i => ws[i]?) = wc.map some) (hR : isR.map (fun i => ws[i]?) = wr.map some) (hn : va_nd isR = true) (hdis : ∀ i ∈ isR, i ∉ isC)
    (kk : ∀ (r : Int32) (u : va_W) (H1 : Heap) (locs1 : List Loc), post r u → va_P G CL (wr ++ u) H1 → va_D A (wr ++ u) → va_S A H0 H1 locs1 → W p l e R s m args below meth c H1 locs1 (cells + mc) (slots + ms) Q (F0 m (pc + 3) ls (.int r :: rest))) : W p l e R s m args below meth c H locs cells slots Q (F0 m pc ls st0) := by
  have hF := va_free (wc := wc) hD hS hA isC hC
  refine va_calli hr hS (fun q _ h => hF q h) hF (fun r u t H1 locs1 ht hvm hw hB hz1 hk1 hS1 => ?_)
  obtain ⟨hP1, hD1⟩ := hB
  rw [ht] at hP1
  obtain ⟨hP2, hD2⟩ := va_join hP hD isC isR hC hR hn hdis hk1 hF hP1 hD1
  exact kk r u H1 locs1 hw hP2 hD2 hS1
theorem kWv {post : va_W → Prop} (hr : va_Run p l e R s m args below meth c H locs cells slots mc ms (F0 m pc ls st0) rest (Wv G post (va_A wc H.size) a) (va_A wc H.size)) (hP : va_P G CL ws H) (hD : va_D A ws) (hS : va_S A H0 H locs) (hA : ∀ q, H0.size ≤ q → A q)
    (isC isR : List Nat) (hC : isC.map (fun i => ws[i]?) = wc.map some) (hR : isR.map (fun i => ws[i]?) = wr.map some) (hn : va_nd isR = true) (hdis : ∀ i ∈ isR, i ∉ isC)
    (kk : ∀ (u : va_W) (H1 : Heap) (locs1 : List Loc), post u → va_P G CL (wr ++ u) H1 → va_D A (wr ++ u) → va_S A H0 H1 locs1 → W p l e R s m args below meth c H1 locs1 (cells + mc) (slots + ms) Q (F0 m (pc + 3) ls rest)) : W p l e R s m args below meth c H locs cells slots Q (F0 m pc ls st0) := by
  have hF := va_free (wc := wc) hD hS hA isC hC
  refine va_callv hr hS (fun q _ h => hF q h) hF (fun u t H1 locs1 ht hvm hw hB hz1 hk1 hS1 => ?_)
  obtain ⟨hP1, hD1⟩ := hB
  rw [ht] at hP1
  obtain ⟨hP2, hD2⟩ := va_join hP hD isC isR hC hR hn hdis hk1 hF hP1 hD1
  exact kk u H1 locs1 hw hP2 hD2 hS1
theorem kWq {post : Nat → va_W → Prop} (hr : va_Run p l e R s m args below meth c H locs cells slots mc ms (F0 m pc ls st0) rest (Wq G post (va_A wc H.size) a) (va_A wc H.size)) (hP : va_P G CL ws H) (hD : va_D A ws) (hS : va_S A H0 H locs) (hA : ∀ q, H0.size ≤ q → A q)
    (isC isR : List Nat) (hC : isC.map (fun i => ws[i]?) = wc.map some) (hR : isR.map (fun i => ws[i]?) = wr.map some) (hn : va_nd isR = true) (hdis : ∀ i ∈ isR, i ∉ isC)
    (kk : ∀ (r : Nat) (u : va_W) (H1 : Heap) (locs1 : List Loc), post r u → va_P G CL (wr ++ u) H1 → va_D A (wr ++ u) → va_S A H0 H1 locs1 → W p l e R s m args below meth c H1 locs1 (cells + mc) (slots + ms) Q (F0 m (pc + 3) ls (.ref r :: rest))) : W p l e R s m args below meth c H locs cells slots Q (F0 m pc ls st0) := by
  have hF := va_free (wc := wc) hD hS hA isC hC
  refine va_callr hr hS (fun q _ h => hF q h) hF (fun u ra t H1 locs1 ht hvm hw hB hz1 hk1 hS1 => ?_)
  obtain ⟨⟨hP1, hD1⟩, hpo⟩ := hB
  rw [ht] at hP1
  obtain ⟨hP2, hD2⟩ := va_join hP hD isC isR hC hR hn hdis hk1 hF hP1 hD1
  exact kk ra u H1 locs1 hpo hP2 hD2 hS1
variable {tys : List (ClassId × FieldType)}
theorem lv_seti {x v : Int32} (h : x = v) (k : W p l e R s m args below meth c H locs cells slots Q (F0 m pc ls (.int v :: rest))) : W p l e R s m args below meth c H locs cells slots Q (F0 m pc ls (.int x :: rest)) := h ▸ k
theorem lv_setl {x v : Int64} (h : x = v) (k : W p l e R s m args below meth c H locs cells slots Q (F0 m pc ls (.long v :: rest))) : W p l e R s m args below meth c H locs cells slots Q (F0 m pc ls (.long x :: rest)) := h ▸ k
theorem lv_setv {x v : Value} (h : x = v) (k : W p l e R s m args below meth c H locs cells slots Q (F0 m pc ls (v :: rest))) : W p l e R s m args below meth c H locs cells slots Q (F0 m pc ls (x :: rest)) := h ▸ k
/-- newarray, anewarray, aaload over the known array classes -/
theorem cyOne {t0 : Nat} {cA cB : ClassId} {ty : FieldType} (h1 : va_K G CL tys s) (ht : tys[t0]? = some (cA, ty)) (h2 : va_K G CL (tys ++ [(cB, ty)]) s) : cB = cA := by
  have a1 := (h1.2 t0 _ ht).2
  have a2 := (h2.2 tys.length (cB, ty) (by simp)).2
  cases ty with
  | object C =>
    obtain ⟨_, _, _, _, _, x1⟩ := a1
    obtain ⟨_, _, _, _, _, x2⟩ := a2
    exact Option.some.inj (x2.symm.trans x1)
  | _ => exact Option.some.inj (a2.symm.trans a1)
theorem newI (hexec : p.tables.exec = Jvm.exec) (hb : c.code = cc) (hts : ∀ w ∈ BIG, w.before args s = true) (harr : Cond.arrayClass .int ∈ BIG) (hN : KN G cy s) (hP : va_P G CL ws H) (hD : va_D A ws) (hS : va_S A H0 H locs) (hA : ∀ q, H0.size ≤ q → A q) {n : Int32} (N' : Nat) (hn : ¬ n < 0) (hN' : n.toNatClampNeg = N') (hbytes : N' * componentBytes .int ≤ 536870912) (hcells : cells + 1 ≤ R.cells) (hslots : slots + N' ≤ R.slots) (hdg : decode cc pc = .ok (.newarray .int, 2))
    (kk : ∀ (q : Nat) (H1 : Heap), va_P G CL (ws ++ [(q, .inl (cy 0, N', .inl (fun _ => 0)))]) H1 → va_D A (ws ++ [(q, .inl (cy 0, N', .inl (fun _ => 0)))]) → va_S A H0 H1 locs → W p l e R s m args below meth c H1 locs (cells + 1) (slots + N') Q (F0 m (pc + 2) ls (.ref q :: rest))) : W p l e R s m args below meth c H locs cells slots Q (F0 m pc ls (.int n :: rest)) := by
  refine va_newa (atype := .int) (a0 := (N', .inl (fun _ => 0))) hexec hb (hts _ harr) (ty := .int) rfl hN.1 hP hD hS hA (fun _ => rfl) hn hN' hbytes hcells hslots hdg (fun q cA H1 hK2 hP2 hD2 hS2 => ?_)
  have e := cyOne (t0 := 0) hN.1 rfl hK2
  subst e
  exact kk q H1 hP2 hD2 hS2
theorem newJ (hexec : p.tables.exec = Jvm.exec) (hb : c.code = cc) (hts : ∀ w ∈ BIG, w.before args s = true) (harr : Cond.arrayClass .long ∈ BIG) (hN : KN G cy s) (hP : va_P G CL ws H) (hD : va_D A ws) (hS : va_S A H0 H locs) (hA : ∀ q, H0.size ≤ q → A q) {n : Int32} (N' : Nat) (hn : ¬ n < 0) (hN' : n.toNatClampNeg = N') (hbytes : N' * componentBytes .long ≤ 536870912) (hcells : cells + 1 ≤ R.cells) (hslots : slots + N' ≤ R.slots) (hdg : decode cc pc = .ok (.newarray .long, 2))
    (kk : ∀ (q : Nat) (H1 : Heap), va_P G CL (ws ++ [(q, .inl (cy 1, N', .inr (.inl (fun _ => 0))))]) H1 → va_D A (ws ++ [(q, .inl (cy 1, N', .inr (.inl (fun _ => 0))))]) → va_S A H0 H1 locs → W p l e R s m args below meth c H1 locs (cells + 1) (slots + N') Q (F0 m (pc + 2) ls (.ref q :: rest))) : W p l e R s m args below meth c H locs cells slots Q (F0 m pc ls (.int n :: rest)) := by
  refine va_newa (atype := .long) (a0 := (N', .inr (.inl (fun _ => 0)))) hexec hb (hts _ harr) (ty := .long) rfl hN.1 hP hD hS hA (fun _ => rfl) hn hN' hbytes hcells hslots hdg (fun q cA H1 hK2 hP2 hD2 hS2 => ?_)
  have e := cyOne (t0 := 1) hN.1 rfl hK2
  subst e
  exact kk q H1 hP2 hD2 hS2
theorem newB (hexec : p.tables.exec = Jvm.exec) (hb : c.code = cc) (hts : ∀ w ∈ BIG, w.before args s = true) (harr : Cond.arrayClass .byte ∈ BIG) (hN : KN G cy s) (hP : va_P G CL ws H) (hD : va_D A ws) (hS : va_S A H0 H locs) (hA : ∀ q, H0.size ≤ q → A q) {n : Int32} (N' : Nat) (hn : ¬ n < 0) (hN' : n.toNatClampNeg = N') (hbytes : N' * componentBytes .byte ≤ 536870912) (hcells : cells + 1 ≤ R.cells) (hslots : slots + N' ≤ R.slots) (hdg : decode cc pc = .ok (.newarray .byte, 2))
    (kk : ∀ (q : Nat) (H1 : Heap), va_P G CL (ws ++ [(q, .inl (cy 2, N', .inl (fun _ => 0)))]) H1 → va_D A (ws ++ [(q, .inl (cy 2, N', .inl (fun _ => 0)))]) → va_S A H0 H1 locs → W p l e R s m args below meth c H1 locs (cells + 1) (slots + N') Q (F0 m (pc + 2) ls (.ref q :: rest))) : W p l e R s m args below meth c H locs cells slots Q (F0 m pc ls (.int n :: rest)) := by
  refine va_newa (atype := .byte) (a0 := (N', .inl (fun _ => 0))) hexec hb (hts _ harr) (ty := .byte) rfl hN.1 hP hD hS hA (fun _ => rfl) hn hN' hbytes hcells hslots hdg (fun q cA H1 hK2 hP2 hD2 hS2 => ?_)
  have e := cyOne (t0 := 2) hN.1 rfl hK2
  subst e
  exact kk q H1 hP2 hD2 hS2
theorem newM (hexec : p.tables.exec = Jvm.exec) (hb : c.code = cc) (hts : ∀ w ∈ BIG, w.before args s = true) (hown : s.vm.findClass RX6 = some m.cls) (hcl : Cond.classLink RX6 index RX6 ∈ BIG) (hN : KN G cy s) (hP : va_P G CL ws H) (hD : va_D A ws) (hS : va_S A H0 H locs) (hA : ∀ q, H0.size ≤ q → A q) {n : Int32} (N' : Nat) (hn : ¬ n < 0) (hN' : n.toNatClampNeg = N') (hbytes : N' * 4 ≤ 536870912) (hcells : cells + 1 ≤ R.cells) (hslots : slots + N' ≤ R.slots) (hdg : decode cc pc = .ok (.anewarray index, 3))
    (kk : ∀ (q : Nat) (H1 : Heap), va_P G CL (ws ++ [(q, .inl (cy 5, N', .inr (.inr (.inr (.inr (fun _ => none))))))]) H1 → va_D A (ws ++ [(q, .inl (cy 5, N', .inr (.inr (.inr (.inr (fun _ => none))))))]) → va_S A H0 H1 locs → W p l e R s m args below meth c H1 locs (cells + 1) (slots + N') Q (F0 m (pc + 3) ls (.ref q :: rest))) : W p l e R s m args below meth c H locs cells slots Q (F0 m pc ls (.int n :: rest)) := by
  refine va_newq (C := RX6) hexec hb hown (hts _ hcl) hN.2.2.2.2.1 hN.1 hP hD hS hA hn hN' hbytes hcells hslots hdg (fun q cA H1 hK2 hP2 hD2 hS2 => ?_)
  have e := cyOne (t0 := 5) hN.1 rfl hK2
  subst e
  exact kk q H1 hP2 hD2 hS2
theorem va_alda (hexec : p.tables.exec = Jvm.exec) (hb : c.code = cc) {D : va_G} {cl : List vw_C} (hK : va_K D cl tys s) (hP : va_P D cl ws H) (q0 t0 : Nat) {a0 : Nat} {cA : ClassId} {ty : FieldType} {n : Nat} {f : Nat → Option Nat} (ha : ws[q0]? = some (a0, .inl (cA, n, .inr (.inr (.inr (.inr f)))))) (ht : tys[t0]? = some (cA, .array ty)) {i : Int32} (hin : vp_in i n) (hdg : decode cc pc = .ok (.aaload, 1))
    (kk : W p l e R s m args below meth c H locs cells slots Q (F0 m (pc + 1) ls (va_rf (f i.toNatClampNeg) :: rest))) : W p l e R s m args below meth c H locs cells slots Q (F0 m pc ls (.int i :: .ref a0 :: rest)) := by
  have hlt : i.toNatClampNeg < n := Nat.not_le.mp fun q => hin (Or.inr q)
  exact W.aald (v := va_rf (f i.toNatClampNeg)) (ty := .array ty) hexec hb (hP q0 _ ha) ((hK.2 t0 _ ht).1 n (fun j => va_rf (f j))) rfl (fun q => by cases q) (by show ¬ (i < 0 ∨ (arrV _ _ _).slots.size ≤ _); rw [arrV_size]; exact hin) (by show (arrV _ _ _).slots[_]? = _; rw [arrV_read _ _ hlt]) rfl rfl hdg kk
/-- the ends -/
theorem endR {post : Int32 → Prop} {v : Int32} {ty : FieldType} (hexec : p.tables.exec = Jvm.exec) (hb : c.code = cc) (hr : meth.sig.returnType = some ty) (hlocks : meth.locks = false) (hn : narrow ty (.int v) = .int v) (hp : post v) (hdg : decode cc pc = .ok (.ireturn, 1)) : W p l e R s m args below meth c s.heap [] cells slots (MQ below (vp_Si post) args s cells slots (fun _ => False)) (F0 m pc ls [.int v]) :=
  W.zret hexec hb hr hn (fun _ ht _ => ⟨v, rfl, hp, ht⟩) (fun _ h => by cases h) hdg
theorem endRl {post : Int64 → Prop} {v : Int64} (hexec : p.tables.exec = Jvm.exec) (hb : c.code = cc) (hr : meth.sig.returnType = some .long) (hlocks : meth.locks = false) (hp : post v) (hdg : decode cc pc = .ok (.lreturn, 1)) : W p l e R s m args below meth c s.heap [] cells slots (MQ below (vp_Sl post) args s cells slots (fun _ => False)) (F0 m pc ls [.long v]) :=
  W.lret hexec hb hr (fun _ ht _ => ⟨v, rfl, hp, ht⟩) (fun _ h => by cases h) hdg
theorem endW {post : Int32 → va_W → Prop} {v : Int32} {ty : FieldType} {u : va_W} (hexec : p.tables.exec = Jvm.exec) (hb : c.code = cc) (hr : meth.sig.returnType = some ty) (hlocks : meth.locks = false) (hn : narrow ty (.int v) = .int v) (hP : va_P G CL u H) (hD : va_D A u) (hS : va_S A s.heap H locs) (hp : post v u) (hdg : decode cc pc = .ok (.ireturn, 1)) : W p l e R s m args below meth c H locs cells slots (MQ below (Wi G post A) args s cells slots A) (F0 m pc ls [.int v]) :=
  W.zret hexec hb hr hn (fun _ ht _ => ⟨⟨v, u, rfl, hp, by rw [ht]; exact hP, hD⟩, hS.F ht⟩) hS.2.2 hdg
theorem endV {post : va_W → Prop} {u : va_W} (hexec : p.tables.exec = Jvm.exec) (hb : c.code = cc) (hr : meth.sig.returnType = none) (hlocks : meth.locks = false) (hP : va_P G CL u H) (hD : va_D A u) (hS : va_S A s.heap H locs) (hp : post u) (hdg : decode cc pc = .ok (.return_, 1)) : W p l e R s m args below meth c H locs cells slots (MQ below (Wv G post A) args s cells slots A) (F0 m pc ls []) :=
  W.vret hexec hb hr (fun _ ht _ => ⟨⟨u, rfl, hp, by rw [ht]; exact hP, hD⟩, hS.F ht⟩) hS.2.2 hdg
theorem endQ {post : Nat → va_W → Prop} {ra : Nat} {C : String} {u : va_W} (hexec : p.tables.exec = Jvm.exec) (hb : c.code = cc) (hr : meth.sig.returnType = some (.object C)) (hlocks : meth.locks = false) (hP : va_P G CL u H) (hD : va_D A u) (hS : va_S A s.heap H locs) (hp : post ra u) (hdg : decode cc pc = .ok (.areturn, 1)) : W p l e R s m args below meth c H locs cells slots (MQ below (Wq G post A) args s cells slots A) (F0 m pc ls [.ref ra]) :=
  W.aret hexec hb hr (Or.inl ⟨C, rfl⟩) (Or.inr ⟨ra, rfl⟩) (fun _ ht _ => ⟨⟨u, ra, rfl, trivial, ⟨by rw [ht]; exact hP, hD⟩, hp⟩, hS.F ht⟩) hS.2.2 hdg
end BCALL
theorem va_P0 {D : va_G} {cl : List vw_C} {H : Heap} : va_P D cl [] H := fun k q h => by simp at h
theorem va_D0 {A : Nat → Prop} : va_D A [] := ⟨fun i j p q h => by simp at h, fun k q h => by simp at h⟩
theorem in_c {i : Int32} {n : Nat} (h : (decide (i < 0) || decide (n ≤ i.toNatClampNeg)) = false) : vp_in i n := by
  rw [Bool.or_eq_false_iff, decide_eq_false_iff_not, decide_eq_false_iff_not] at h
  exact fun q => q.elim h.1 h.2
/-- v lies from a to b -/
def In (v a b : Int64) : Prop := a ≤ v ∧ v ≤ b
end
section
theorem m_t0 : Cond.initialized RL ∈ BIG := big_t 0 (by decide +kernel) (by decide +kernel)
theorem m_t1 : Cond.initialized RX5 ∈ BIG := big_t 1 (by decide +kernel) (by decide +kernel)
theorem m_t2 : Cond.initialized RX4 ∈ BIG := big_t 2 (by decide +kernel) (by decide +kernel)
theorem m_t3 : Cond.initialized RX0 ∈ BIG := big_t 3 (by decide +kernel) (by decide +kernel)
theorem m_t4 : Cond.initialized RX2 ∈ BIG := big_t 4 (by decide +kernel) (by decide +kernel)
theorem m_t5 : Cond.initialized RX3 ∈ BIG := big_t 5 (by decide +kernel) (by decide +kernel)
theorem m_t6 : Cond.initialized RX6 ∈ BIG := big_t 6 (by decide +kernel) (by decide +kernel)
theorem m_t7 : Cond.initialized RJ10 ∈ BIG := big_t 7 (by decide +kernel) (by decide +kernel)
theorem m_t8 : Cond.initialized RX1 ∈ BIG := big_t 8 (by decide +kernel) (by decide +kernel)
theorem m_t9 : Cond.initialized RJ9 ∈ BIG := big_t 9 (by decide +kernel) (by decide +kernel)
theorem m_t10 : Cond.initialized RJ0 ∈ BIG := big_t 10 (by decide +kernel) (by decide +kernel)
theorem m_t11 : Cond.initialized RJ1 ∈ BIG := big_t 11 (by decide +kernel) (by decide +kernel)
theorem m_t12 : Cond.initialized RJ3 ∈ BIG := big_t 12 (by decide +kernel) (by decide +kernel)
theorem m_t13 : Cond.initialized RJ2 ∈ BIG := big_t 13 (by decide +kernel) (by decide +kernel)
theorem m_t14 : Cond.initialized RJ6 ∈ BIG := big_t 14 (by decide +kernel) (by decide +kernel)
theorem m_t15 : Cond.classLink RL 7 RX5 ∈ BIG := big_t 15 (by decide +kernel) (by decide +kernel)
theorem m_t16 : Cond.instantiable RX5 9 ∈ BIG := big_t 16 (by decide +kernel) (by decide +kernel)
theorem m_t17 : Cond.methodLink RL 9 yX5_init ∈ BIG := big_t 17 (by decide +kernel) (by decide +kernel)
theorem m_t18 : Cond.instanceMethod yX5_init ∈ BIG := big_t 18 (by decide +kernel) (by decide +kernel)
theorem m_t19 : Cond.code yX5_init cX5_init 1 none ∈ BIG := big_t 19 (by decide +kernel) (by decide +kernel)
theorem m_t20 : Cond.methodLink RX5 1 objectInit ∈ BIG := big_t 20 (by decide +kernel) (by decide +kernel)
theorem m_t21 : Cond.instanceMethod objectInit ∈ BIG := big_t 21 (by decide +kernel) (by decide +kernel)
theorem m_t22 : Cond.code objectInit ⟨#[0xb1]⟩ 1 none ∈ BIG := big_t 22 (by decide +kernel) (by decide +kernel)
theorem m_t23 : Cond.classLink RX5 7 RX4 ∈ BIG := big_t 23 (by decide +kernel) (by decide +kernel)
theorem m_t24 : Cond.instantiable RX4 13 ∈ BIG := big_t 24 (by decide +kernel) (by decide +kernel)
theorem m_t26 : Cond.instanceMethod yX4_init ∈ BIG := big_t 26 (by decide +kernel) (by decide +kernel)
theorem m_t27 : Cond.code yX4_init cX4_init 1 none ∈ BIG := big_t 27 (by decide +kernel) (by decide +kernel)
theorem m_t28 : Cond.methodLink RX4 3 objectInit ∈ BIG := big_t 28 (by decide +kernel) (by decide +kernel)
theorem m_t29 : Cond.fieldLink RX4 40 "EachBookOnce$Town" "books" "I" ∈ BIG := big_t 29 (by decide +kernel) (by decide +kernel)
theorem m_t34 : Cond.fieldLink RX4 43 "EachBookOnce$Town" "people" "I" ∈ BIG := big_t 34 (by decide +kernel) (by decide +kernel)
theorem m_t39 : Cond.fieldLink RX4 46 "EachBookOnce$Town" "white" "I" ∈ BIG := big_t 39 (by decide +kernel) (by decide +kernel)
theorem m_t43 : Cond.fieldLink RX4 49 "EachBookOnce$Town" "gone" "I" ∈ BIG := big_t 43 (by decide +kernel) (by decide +kernel)
theorem m_t46 : Cond.fieldLink RX4 9 "EachBookOnce$Town" "luck" "I" ∈ BIG := big_t 46 (by decide +kernel) (by decide +kernel)
theorem m_t48 : Cond.fieldLink RX4 15 "EachBookOnce$Town" "worth" "[I" ∈ BIG := big_t 48 (by decide +kernel) (by decide +kernel)
theorem m_t50 : Cond.fieldLink RX4 19 "EachBookOnce$Town" "needed" "[I" ∈ BIG := big_t 50 (by decide +kernel) (by decide +kernel)
theorem m_t53 : Cond.fieldLink RX4 22 "EachBookOnce$Town" "good" "[I" ∈ BIG := big_t 53 (by decide +kernel) (by decide +kernel)
theorem m_t56 : Cond.fieldLink RX4 25 "EachBookOnce$Town" "age" "[I" ∈ BIG := big_t 56 (by decide +kernel) (by decide +kernel)
theorem m_t58 : Cond.fieldLink RX4 28 "EachBookOnce$Town" "reading" "[I" ∈ BIG := big_t 58 (by decide +kernel) (by decide +kernel)
theorem m_t60 : Cond.fieldLink RX4 31 "EachBookOnce$Town" "memory" "[I" ∈ BIG := big_t 60 (by decide +kernel) (by decide +kernel)
theorem m_t62 : Cond.fieldLink RX4 34 "EachBookOnce$Town" "telling" "[I" ∈ BIG := big_t 62 (by decide +kernel) (by decide +kernel)
theorem m_t64 : Cond.fieldLink RX4 37 "EachBookOnce$Town" "share" "[I" ∈ BIG := big_t 64 (by decide +kernel) (by decide +kernel)
theorem m_t92 : Cond.arrayClass .int ∈ BIG := big_t 92 (by decide +kernel) (by decide +kernel)
theorem m_t93 : Cond.classLink RX5 19 RX0 ∈ BIG := big_t 93 (by decide +kernel) (by decide +kernel)
theorem m_t94 : Cond.instantiable RX0 4 ∈ BIG := big_t 94 (by decide +kernel) (by decide +kernel)
theorem m_t96 : Cond.instanceMethod yX0_init ∈ BIG := big_t 96 (by decide +kernel) (by decide +kernel)
theorem m_t97 : Cond.code yX0_init cX0_init 1 none ∈ BIG := big_t 97 (by decide +kernel) (by decide +kernel)
theorem m_t98 : Cond.methodLink RX0 3 objectInit ∈ BIG := big_t 98 (by decide +kernel) (by decide +kernel)
theorem m_t99 : Cond.classLink RX0 9 RX4 ∈ BIG := big_t 99 (by decide +kernel) (by decide +kernel)
theorem m_t101 : Cond.fieldLink RX0 12 "EachBookOnce$Plans" "trial" "LEachBookOnce$Town;" ∈ BIG := big_t 101 (by decide +kernel) (by decide +kernel)
theorem m_t103 : Cond.fieldLink RX0 18 "EachBookOnce$Plans" "second" "LEachBookOnce$Town;" ∈ BIG := big_t 103 (by decide +kernel) (by decide +kernel)
theorem m_t104 : Cond.fieldLink RX0 29 "EachBookOnce$Plans" "lastValue" "I" ∈ BIG := big_t 104 (by decide +kernel) (by decide +kernel)
theorem m_t106 : Cond.fieldLink RX0 64 "EachBookOnce$Plans" "bestSum" "I" ∈ BIG := big_t 106 (by decide +kernel) (by decide +kernel)
theorem m_t117 : Cond.classLink RX5 26 RX2 ∈ BIG := big_t 117 (by decide +kernel) (by decide +kernel)
theorem m_t118 : Cond.instantiable RX2 4 ∈ BIG := big_t 118 (by decide +kernel) (by decide +kernel)
theorem m_t119 : Cond.methodLink RX5 28 yX2_init ∈ BIG := big_t 119 (by decide +kernel) (by decide +kernel)
theorem m_t120 : Cond.instanceMethod yX2_init ∈ BIG := big_t 120 (by decide +kernel) (by decide +kernel)
theorem m_t121 : Cond.code yX2_init cX2_init 2 none ∈ BIG := big_t 121 (by decide +kernel) (by decide +kernel)
theorem m_t122 : Cond.methodLink RX2 3 objectInit ∈ BIG := big_t 122 (by decide +kernel) (by decide +kernel)
theorem m_t123 : Cond.fieldLink RX2 9 "EachBookOnce$Shelves" "holding" "[I" ∈ BIG := big_t 123 (by decide +kernel) (by decide +kernel)
theorem m_t125 : Cond.fieldLink RX2 15 "EachBookOnce$Shelves" "size" "[I" ∈ BIG := big_t 125 (by decide +kernel) (by decide +kernel)
theorem m_t127 : Cond.fieldLink RX2 18 "EachBookOnce$Shelves" "amount" "[I" ∈ BIG := big_t 127 (by decide +kernel) (by decide +kernel)
theorem m_t129 : Cond.fieldLink RX2 21 "EachBookOnce$Shelves" "elements" "[J" ∈ BIG := big_t 129 (by decide +kernel) (by decide +kernel)
theorem m_t139 : Cond.arrayClass .long ∈ BIG := big_t 139 (by decide +kernel) (by decide +kernel)
theorem m_t140 : Cond.classLink RX5 33 RX3 ∈ BIG := big_t 140 (by decide +kernel) (by decide +kernel)
theorem m_t141 : Cond.instantiable RX3 7 ∈ BIG := big_t 141 (by decide +kernel) (by decide +kernel)
theorem m_t143 : Cond.instanceMethod yX3_init ∈ BIG := big_t 143 (by decide +kernel) (by decide +kernel)
theorem m_t144 : Cond.code yX3_init cX3_init 1 none ∈ BIG := big_t 144 (by decide +kernel) (by decide +kernel)
theorem m_t145 : Cond.methodLink RX3 3 objectInit ∈ BIG := big_t 145 (by decide +kernel) (by decide +kernel)
theorem m_t146 : Cond.classLink RX3 15 RX4 ∈ BIG := big_t 146 (by decide +kernel) (by decide +kernel)
theorem m_t148 : Cond.fieldLink RX3 11 "EachBookOnce$Tape" "bytes" "[B" ∈ BIG := big_t 148 (by decide +kernel) (by decide +kernel)
theorem m_t149 : Cond.fieldLink RX3 22 "EachBookOnce$Tape" "size" "I" ∈ BIG := big_t 149 (by decide +kernel) (by decide +kernel)
theorem m_t151 : Cond.fieldLink RX3 121 "EachBookOnce$Tape" "start" "I" ∈ BIG := big_t 151 (by decide +kernel) (by decide +kernel)
theorem m_t152 : Cond.fieldLink RX3 33 "EachBookOnce$Tape" "end" "I" ∈ BIG := big_t 152 (by decide +kernel) (by decide +kernel)
theorem m_t153 : Cond.fieldLink RX3 42 "EachBookOnce$Tape" "token" "I" ∈ BIG := big_t 153 (by decide +kernel) (by decide +kernel)
theorem m_t154 : Cond.fieldLink RX3 30 "EachBookOnce$Tape" "fault" "I" ∈ BIG := big_t 154 (by decide +kernel) (by decide +kernel)
theorem m_t156 : Cond.fieldLink RX3 18 "EachBookOnce$Tape" "draft" "LEachBookOnce$Town;" ∈ BIG := big_t 156 (by decide +kernel) (by decide +kernel)
theorem m_t173 : Cond.arrayClass .byte ∈ BIG := big_t 173 (by decide +kernel) (by decide +kernel)
theorem m_t174 : Cond.fieldLink RX5 10 "EachBookOnce" "town" "LEachBookOnce$Town;" ∈ BIG := big_t 174 (by decide +kernel) (by decide +kernel)
theorem m_t175 : Cond.fieldLink RX5 16 "EachBookOnce" "kept" "LEachBookOnce$Town;" ∈ BIG := big_t 175 (by decide +kernel) (by decide +kernel)
theorem m_t176 : Cond.fieldLink RX5 22 "EachBookOnce" "plans" "LEachBookOnce$Plans;" ∈ BIG := big_t 176 (by decide +kernel) (by decide +kernel)
theorem m_t177 : Cond.fieldLink RX5 29 "EachBookOnce" "shelves" "LEachBookOnce$Shelves;" ∈ BIG := big_t 177 (by decide +kernel) (by decide +kernel)
theorem m_t178 : Cond.fieldLink RX5 36 "EachBookOnce" "tape" "LEachBookOnce$Tape;" ∈ BIG := big_t 178 (by decide +kernel) (by decide +kernel)
theorem m_t179 : Cond.fieldLink RX5 40 "EachBookOnce" "refusals" "[I" ∈ BIG := big_t 179 (by decide +kernel) (by decide +kernel)
theorem m_t180 : Cond.fieldLink RX5 344 "EachBookOnce" "isKept" "Z" ∈ BIG := big_t 180 (by decide +kernel) (by decide +kernel)
theorem m_t181 : Cond.fieldLink RX5 335 "EachBookOnce" "yearsEnded" "I" ∈ BIG := big_t 181 (by decide +kernel) (by decide +kernel)
theorem m_t182 : Cond.fieldLink RX5 338 "EachBookOnce" "trueValues" "I" ∈ BIG := big_t 182 (by decide +kernel) (by decide +kernel)
theorem m_t202 : Cond.methodLink RL 13 yX5_row ∈ BIG := big_t 202 (by decide +kernel) (by decide +kernel)
theorem m_t203 : Cond.instanceMethod yX5_row ∈ BIG := big_t 203 (by decide +kernel) (by decide +kernel)
theorem m_t204 : Cond.selects RX5 yX5_row yX5_row ∈ BIG := big_t 204 (by decide +kernel) (by decide +kernel)
theorem m_t205 : Cond.code yX5_row cX5_row 4 (some .int) ∈ BIG := big_t 205 (by decide +kernel) (by decide +kernel)
theorem m_t206 : Cond.methodLink RX5 44 yX5_isShelf ∈ BIG := big_t 206 (by decide +kernel) (by decide +kernel)
theorem m_t207 : Cond.static yX5_isShelf ∈ BIG := big_t 207 (by decide +kernel) (by decide +kernel)
theorem m_t208 : Cond.code yX5_isShelf cX5_isShelf 1 (some .boolean) ∈ BIG := big_t 208 (by decide +kernel) (by decide +kernel)
theorem m_t209 : Cond.constantLong RX5 355 7 ∈ BIG := big_t 209 (by decide +kernel) (by decide +kernel)
theorem m_t210 : Cond.methodLink RX5 50 yX5_within ∈ BIG := big_t 210 (by decide +kernel) (by decide +kernel)
theorem m_t211 : Cond.static yX5_within ∈ BIG := big_t 211 (by decide +kernel) (by decide +kernel)
theorem m_t212 : Cond.code yX5_within cX5_within 6 (some .boolean) ∈ BIG := big_t 212 (by decide +kernel) (by decide +kernel)
theorem m_t213 : Cond.constantLong RX5 48 4 ∈ BIG := big_t 213 (by decide +kernel) (by decide +kernel)
theorem m_t214 : Cond.constantLong RX5 54 40 ∈ BIG := big_t 214 (by decide +kernel) (by decide +kernel)
theorem m_t215 : Cond.methodLink RX5 56 yX5_refuse ∈ BIG := big_t 215 (by decide +kernel) (by decide +kernel)
theorem m_t217 : Cond.instanceMethod yX5_refuse ∈ BIG := big_t 217 (by decide +kernel) (by decide +kernel)
theorem m_t218 : Cond.code yX5_refuse cX5_refuse 3 (some .int) ∈ BIG := big_t 218 (by decide +kernel) (by decide +kernel)
theorem m_t219 : Cond.methodLink RX5 60 yX2_putRow ∈ BIG := big_t 219 (by decide +kernel) (by decide +kernel)
theorem m_t220 : Cond.instanceMethod yX2_putRow ∈ BIG := big_t 220 (by decide +kernel) (by decide +kernel)
theorem m_t221 : Cond.selects RX2 yX2_putRow yX2_putRow ∈ BIG := big_t 221 (by decide +kernel) (by decide +kernel)
theorem m_t222 : Cond.code yX2_putRow cX2_putRow 5 none ∈ BIG := big_t 222 (by decide +kernel) (by decide +kernel)
theorem m_t223 : Cond.methodLink RL 20 yX5_set ∈ BIG := big_t 223 (by decide +kernel) (by decide +kernel)
theorem m_t224 : Cond.instanceMethod yX5_set ∈ BIG := big_t 224 (by decide +kernel) (by decide +kernel)
theorem m_t225 : Cond.selects RX5 yX5_set yX5_set ∈ BIG := big_t 225 (by decide +kernel) (by decide +kernel)
theorem m_t226 : Cond.code yX5_set cX5_set 6 (some .int) ∈ BIG := big_t 226 (by decide +kernel) (by decide +kernel)
theorem m_t227 : Cond.methodLink RX5 64 yX5_rowFit ∈ BIG := big_t 227 (by decide +kernel) (by decide +kernel)
theorem m_t229 : Cond.instanceMethod yX5_rowFit ∈ BIG := big_t 229 (by decide +kernel) (by decide +kernel)
theorem m_t230 : Cond.code yX5_rowFit cX5_rowFit 2 (some .int) ∈ BIG := big_t 230 (by decide +kernel) (by decide +kernel)
theorem m_t231 : Cond.methodLink RX5 361 yX2_hasRule ∈ BIG := big_t 231 (by decide +kernel) (by decide +kernel)
theorem m_t232 : Cond.instanceMethod yX2_hasRule ∈ BIG := big_t 232 (by decide +kernel) (by decide +kernel)
theorem m_t233 : Cond.selects RX2 yX2_hasRule yX2_hasRule ∈ BIG := big_t 233 (by decide +kernel) (by decide +kernel)
theorem m_t234 : Cond.code yX2_hasRule cX2_hasRule 2 (some .boolean) ∈ BIG := big_t 234 (by decide +kernel) (by decide +kernel)
theorem m_t235 : Cond.methodLink RX5 364 yX2_hasRow ∈ BIG := big_t 235 (by decide +kernel) (by decide +kernel)
theorem m_t236 : Cond.instanceMethod yX2_hasRow ∈ BIG := big_t 236 (by decide +kernel) (by decide +kernel)
theorem m_t237 : Cond.selects RX2 yX2_hasRow yX2_hasRow ∈ BIG := big_t 237 (by decide +kernel) (by decide +kernel)
theorem m_t238 : Cond.code yX2_hasRow cX2_hasRow 2 (some .boolean) ∈ BIG := big_t 238 (by decide +kernel) (by decide +kernel)
theorem m_t239 : Cond.methodLink RX5 70 yX2_put ∈ BIG := big_t 239 (by decide +kernel) (by decide +kernel)
theorem m_t240 : Cond.instanceMethod yX2_put ∈ BIG := big_t 240 (by decide +kernel) (by decide +kernel)
theorem m_t241 : Cond.selects RX2 yX2_put yX2_put ∈ BIG := big_t 241 (by decide +kernel) (by decide +kernel)
theorem m_t242 : Cond.code yX2_put cX2_put 5 none ∈ BIG := big_t 242 (by decide +kernel) (by decide +kernel)
theorem m_t243 : Cond.methodLink RX2 25 yX2_lowestBits ∈ BIG := big_t 243 (by decide +kernel) (by decide +kernel)
theorem m_t244 : Cond.static yX2_lowestBits ∈ BIG := big_t 244 (by decide +kernel) (by decide +kernel)
theorem m_t245 : Cond.code yX2_lowestBits cX2_lowestBits 3 (some .long) ∈ BIG := big_t 245 (by decide +kernel) (by decide +kernel)
theorem m_t246 : Cond.methodLink RL 25 yX5_copy ∈ BIG := big_t 246 (by decide +kernel) (by decide +kernel)
theorem m_t247 : Cond.instanceMethod yX5_copy ∈ BIG := big_t 247 (by decide +kernel) (by decide +kernel)
theorem m_t248 : Cond.selects RX5 yX5_copy yX5_copy ∈ BIG := big_t 248 (by decide +kernel) (by decide +kernel)
theorem m_t249 : Cond.code yX5_copy cX5_copy 7 (some .int) ∈ BIG := big_t 249 (by decide +kernel) (by decide +kernel)
theorem m_t250 : Cond.methodLink RX5 74 yX5_copyFit ∈ BIG := big_t 250 (by decide +kernel) (by decide +kernel)
theorem m_t252 : Cond.instanceMethod yX5_copyFit ∈ BIG := big_t 252 (by decide +kernel) (by decide +kernel)
theorem m_t253 : Cond.code yX5_copyFit cX5_copyFit 3 (some .int) ∈ BIG := big_t 253 (by decide +kernel) (by decide +kernel)
theorem m_t254 : Cond.methodLink RX5 78 yX5_hasSpan ∈ BIG := big_t 254 (by decide +kernel) (by decide +kernel)
theorem m_t256 : Cond.instanceMethod yX5_hasSpan ∈ BIG := big_t 256 (by decide +kernel) (by decide +kernel)
theorem m_t257 : Cond.code yX5_hasSpan cX5_hasSpan 4 (some .boolean) ∈ BIG := big_t 257 (by decide +kernel) (by decide +kernel)
theorem m_t258 : Cond.methodLink RX5 82 yX2_move ∈ BIG := big_t 258 (by decide +kernel) (by decide +kernel)
theorem m_t259 : Cond.instanceMethod yX2_move ∈ BIG := big_t 259 (by decide +kernel) (by decide +kernel)
theorem m_t260 : Cond.selects RX2 yX2_move yX2_move ∈ BIG := big_t 260 (by decide +kernel) (by decide +kernel)
theorem m_t261 : Cond.code yX2_move cX2_move 6 none ∈ BIG := big_t 261 (by decide +kernel) (by decide +kernel)
theorem m_t265 : Cond.methodLink RL 30 yX5_element ∈ BIG := big_t 265 (by decide +kernel) (by decide +kernel)
theorem m_t266 : Cond.instanceMethod yX5_element ∈ BIG := big_t 266 (by decide +kernel) (by decide +kernel)
theorem m_t267 : Cond.selects RX5 yX5_element yX5_element ∈ BIG := big_t 267 (by decide +kernel) (by decide +kernel)
theorem m_t268 : Cond.code yX5_element cX5_element 3 (some .long) ∈ BIG := big_t 268 (by decide +kernel) (by decide +kernel)
theorem m_t269 : Cond.methodLink RX5 86 yX2_at ∈ BIG := big_t 269 (by decide +kernel) (by decide +kernel)
theorem m_t270 : Cond.instanceMethod yX2_at ∈ BIG := big_t 270 (by decide +kernel) (by decide +kernel)
theorem m_t271 : Cond.selects RX2 yX2_at yX2_at ∈ BIG := big_t 271 (by decide +kernel) (by decide +kernel)
theorem m_t272 : Cond.code yX2_at cX2_at 3 (some .long) ∈ BIG := big_t 272 (by decide +kernel) (by decide +kernel)
theorem m_t273 : Cond.methodLink RL 35 yX5_holds ∈ BIG := big_t 273 (by decide +kernel) (by decide +kernel)
theorem m_t274 : Cond.instanceMethod yX5_holds ∈ BIG := big_t 274 (by decide +kernel) (by decide +kernel)
theorem m_t275 : Cond.selects RX5 yX5_holds yX5_holds ∈ BIG := big_t 275 (by decide +kernel) (by decide +kernel)
theorem m_t276 : Cond.code yX5_holds cX5_holds 2 (some .int) ∈ BIG := big_t 276 (by decide +kernel) (by decide +kernel)
theorem m_t277 : Cond.methodLink RL 40 yX5_rule ∈ BIG := big_t 277 (by decide +kernel) (by decide +kernel)
theorem m_t278 : Cond.instanceMethod yX5_rule ∈ BIG := big_t 278 (by decide +kernel) (by decide +kernel)
theorem m_t279 : Cond.selects RX5 yX5_rule yX5_rule ∈ BIG := big_t 279 (by decide +kernel) (by decide +kernel)
theorem m_t280 : Cond.code yX5_rule cX5_rule 4 (some .int) ∈ BIG := big_t 280 (by decide +kernel) (by decide +kernel)
theorem m_t281 : Cond.constantLong RX5 93 6 ∈ BIG := big_t 281 (by decide +kernel) (by decide +kernel)
theorem m_t282 : Cond.constantLong RX5 95 99 ∈ BIG := big_t 282 (by decide +kernel) (by decide +kernel)
theorem m_t283 : Cond.methodLink RX5 97 yX2_putRule ∈ BIG := big_t 283 (by decide +kernel) (by decide +kernel)
theorem m_t284 : Cond.instanceMethod yX2_putRule ∈ BIG := big_t 284 (by decide +kernel) (by decide +kernel)
theorem m_t285 : Cond.selects RX2 yX2_putRule yX2_putRule ∈ BIG := big_t 285 (by decide +kernel) (by decide +kernel)
theorem m_t286 : Cond.code yX2_putRule cX2_putRule 4 none ∈ BIG := big_t 286 (by decide +kernel) (by decide +kernel)
theorem m_t287 : Cond.methodLink RL 44 yX5_says ∈ BIG := big_t 287 (by decide +kernel) (by decide +kernel)
theorem m_t288 : Cond.instanceMethod yX5_says ∈ BIG := big_t 288 (by decide +kernel) (by decide +kernel)
theorem m_t289 : Cond.selects RX5 yX5_says yX5_says ∈ BIG := big_t 289 (by decide +kernel) (by decide +kernel)
theorem m_t290 : Cond.code yX5_says cX5_says 6 (some .int) ∈ BIG := big_t 290 (by decide +kernel) (by decide +kernel)
theorem m_t291 : Cond.methodLink RX5 100 yX5_ruleFit ∈ BIG := big_t 291 (by decide +kernel) (by decide +kernel)
theorem m_t293 : Cond.instanceMethod yX5_ruleFit ∈ BIG := big_t 293 (by decide +kernel) (by decide +kernel)
theorem m_t294 : Cond.code yX5_ruleFit cX5_ruleFit 2 (some .int) ∈ BIG := big_t 294 (by decide +kernel) (by decide +kernel)
theorem m_t295 : Cond.methodLink RX5 103 yX2_kindIn ∈ BIG := big_t 295 (by decide +kernel) (by decide +kernel)
theorem m_t296 : Cond.instanceMethod yX2_kindIn ∈ BIG := big_t 296 (by decide +kernel) (by decide +kernel)
theorem m_t297 : Cond.selects RX2 yX2_kindIn yX2_kindIn ∈ BIG := big_t 297 (by decide +kernel) (by decide +kernel)
theorem m_t298 : Cond.code yX2_kindIn cX2_kindIn 2 (some .int) ∈ BIG := big_t 298 (by decide +kernel) (by decide +kernel)
theorem m_t299 : Cond.methodLink RX5 106 yX1_isUnder ∈ BIG := big_t 299 (by decide +kernel) (by decide +kernel)
theorem m_t300 : Cond.static yX1_isUnder ∈ BIG := big_t 300 (by decide +kernel) (by decide +kernel)
theorem m_t301 : Cond.code yX1_isUnder cX1_isUnder 2 (some .boolean) ∈ BIG := big_t 301 (by decide +kernel) (by decide +kernel)
theorem m_t302 : Cond.methodLink RX5 115 yX0_trialOf ∈ BIG := big_t 302 (by decide +kernel) (by decide +kernel)
theorem m_t303 : Cond.instanceMethod yX0_trialOf ∈ BIG := big_t 303 (by decide +kernel) (by decide +kernel)
theorem m_t304 : Cond.selects RX0 yX0_trialOf yX0_trialOf ∈ BIG := big_t 304 (by decide +kernel) (by decide +kernel)
theorem m_t305 : Cond.code yX0_trialOf cX0_trialOf 2 (some (.object "EachBookOnce$Town")) ∈ BIG := big_t 305 (by decide +kernel) (by decide +kernel)
theorem m_t306 : Cond.methodLink RX0 21 yX4_become ∈ BIG := big_t 306 (by decide +kernel) (by decide +kernel)
theorem m_t307 : Cond.instanceMethod yX4_become ∈ BIG := big_t 307 (by decide +kernel) (by decide +kernel)
theorem m_t308 : Cond.selects RX4 yX4_become yX4_become ∈ BIG := big_t 308 (by decide +kernel) (by decide +kernel)
theorem m_t309 : Cond.code yX4_become cX4_become 2 none ∈ BIG := big_t 309 (by decide +kernel) (by decide +kernel)
theorem m_t311 : Cond.methodLink RX5 119 yX1_act ∈ BIG := big_t 311 (by decide +kernel) (by decide +kernel)
theorem m_t312 : Cond.static yX1_act ∈ BIG := big_t 312 (by decide +kernel) (by decide +kernel)
theorem m_t313 : Cond.code yX1_act cX1_act 3 (some .int) ∈ BIG := big_t 313 (by decide +kernel) (by decide +kernel)
theorem m_t314 : Cond.methodLink RX1 9 yX1_readDearest ∈ BIG := big_t 314 (by decide +kernel) (by decide +kernel)
theorem m_t315 : Cond.static yX1_readDearest ∈ BIG := big_t 315 (by decide +kernel) (by decide +kernel)
theorem m_t316 : Cond.code yX1_readDearest cX1_readDearest 7 (some .int) ∈ BIG := big_t 316 (by decide +kernel) (by decide +kernel)
theorem m_t317 : Cond.methodLink RX1 19 yX4_dearestUnread ∈ BIG := big_t 317 (by decide +kernel) (by decide +kernel)
theorem m_t318 : Cond.instanceMethod yX4_dearestUnread ∈ BIG := big_t 318 (by decide +kernel) (by decide +kernel)
theorem m_t319 : Cond.selects RX4 yX4_dearestUnread yX4_dearestUnread ∈ BIG := big_t 319 (by decide +kernel) (by decide +kernel)
theorem m_t320 : Cond.code yX4_dearestUnread cX4_dearestUnread 3 (some .int) ∈ BIG := big_t 320 (by decide +kernel) (by decide +kernel)
theorem m_t322 : Cond.static yX5_has ∈ BIG := big_t 322 (by decide +kernel) (by decide +kernel)
theorem m_t323 : Cond.code yX5_has cX5_has 2 (some .boolean) ∈ BIG := big_t 323 (by decide +kernel) (by decide +kernel)
theorem m_t324 : Cond.methodLink RX1 25 yX4_bestReader ∈ BIG := big_t 324 (by decide +kernel) (by decide +kernel)
theorem m_t325 : Cond.instanceMethod yX4_bestReader ∈ BIG := big_t 325 (by decide +kernel) (by decide +kernel)
theorem m_t326 : Cond.selects RX4 yX4_bestReader yX4_bestReader ∈ BIG := big_t 326 (by decide +kernel) (by decide +kernel)
theorem m_t327 : Cond.code yX4_bestReader cX4_bestReader 6 (some .int) ∈ BIG := big_t 327 (by decide +kernel) (by decide +kernel)
theorem m_t328 : Cond.methodLink RX4 91 yX4_wouldKnow ∈ BIG := big_t 328 (by decide +kernel) (by decide +kernel)
theorem m_t329 : Cond.instanceMethod yX4_wouldKnow ∈ BIG := big_t 329 (by decide +kernel) (by decide +kernel)
theorem m_t330 : Cond.selects RX4 yX4_wouldKnow yX4_wouldKnow ∈ BIG := big_t 330 (by decide +kernel) (by decide +kernel)
theorem m_t331 : Cond.code yX4_wouldKnow cX4_wouldKnow 4 (some .int) ∈ BIG := big_t 331 (by decide +kernel) (by decide +kernel)
theorem m_t332 : Cond.methodLink RX4 85 yX4_groundOf ∈ BIG := big_t 332 (by decide +kernel) (by decide +kernel)
theorem m_t333 : Cond.instanceMethod yX4_groundOf ∈ BIG := big_t 333 (by decide +kernel) (by decide +kernel)
theorem m_t334 : Cond.selects RX4 yX4_groundOf yX4_groundOf ∈ BIG := big_t 334 (by decide +kernel) (by decide +kernel)
theorem m_t335 : Cond.code yX4_groundOf cX4_groundOf 5 (some .int) ∈ BIG := big_t 335 (by decide +kernel) (by decide +kernel)
theorem m_t336 : Cond.methodLink RX4 88 yX4_grasped ∈ BIG := big_t 336 (by decide +kernel) (by decide +kernel)
theorem m_t337 : Cond.static yX4_grasped ∈ BIG := big_t 337 (by decide +kernel) (by decide +kernel)
theorem m_t338 : Cond.code yX4_grasped cX4_grasped 2 (some .int) ∈ BIG := big_t 338 (by decide +kernel) (by decide +kernel)
theorem m_t339 : Cond.methodLink RX4 66 yX4_knows ∈ BIG := big_t 339 (by decide +kernel) (by decide +kernel)
theorem m_t340 : Cond.instanceMethod yX4_knows ∈ BIG := big_t 340 (by decide +kernel) (by decide +kernel)
theorem m_t341 : Cond.selects RX4 yX4_knows yX4_knows ∈ BIG := big_t 341 (by decide +kernel) (by decide +kernel)
theorem m_t342 : Cond.code yX4_knows cX4_knows 3 (some .int) ∈ BIG := big_t 342 (by decide +kernel) (by decide +kernel)
theorem m_t343 : Cond.methodLink RX4 70 yJ9_max_7cf53 ∈ BIG := big_t 343 (by decide +kernel) (by decide +kernel)
theorem m_t344 : Cond.static yJ9_max_7cf53 ∈ BIG := big_t 344 (by decide +kernel) (by decide +kernel)
theorem m_t345 : Cond.code yJ9_max_7cf53 cJ9_max_7cf53 2 (some .int) ∈ BIG := big_t 345 (by decide +kernel) (by decide +kernel)
theorem m_t346 : Cond.methodLink RX1 29 yX4_readBy ∈ BIG := big_t 346 (by decide +kernel) (by decide +kernel)
theorem m_t347 : Cond.instanceMethod yX4_readBy ∈ BIG := big_t 347 (by decide +kernel) (by decide +kernel)
theorem m_t348 : Cond.selects RX4 yX4_readBy yX4_readBy ∈ BIG := big_t 348 (by decide +kernel) (by decide +kernel)
theorem m_t349 : Cond.code yX4_readBy cX4_readBy 3 none ∈ BIG := big_t 349 (by decide +kernel) (by decide +kernel)
theorem m_t350 : Cond.methodLink RX4 94 yX4_learn ∈ BIG := big_t 350 (by decide +kernel) (by decide +kernel)
theorem m_t351 : Cond.instanceMethod yX4_learn ∈ BIG := big_t 351 (by decide +kernel) (by decide +kernel)
theorem m_t352 : Cond.selects RX4 yX4_learn yX4_learn ∈ BIG := big_t 352 (by decide +kernel) (by decide +kernel)
theorem m_t353 : Cond.code yX4_learn cX4_learn 4 none ∈ BIG := big_t 353 (by decide +kernel) (by decide +kernel)
theorem m_t354 : Cond.methodLink RX1 33 yX4_setThere ∈ BIG := big_t 354 (by decide +kernel) (by decide +kernel)
theorem m_t355 : Cond.instanceMethod yX4_setThere ∈ BIG := big_t 355 (by decide +kernel) (by decide +kernel)
theorem m_t356 : Cond.selects RX4 yX4_setThere yX4_setThere ∈ BIG := big_t 356 (by decide +kernel) (by decide +kernel)
theorem m_t357 : Cond.code yX4_setThere cX4_setThere 1 (some .int) ∈ BIG := big_t 357 (by decide +kernel) (by decide +kernel)
theorem m_t359 : Cond.static yX5_setOfAll ∈ BIG := big_t 359 (by decide +kernel) (by decide +kernel)
theorem m_t360 : Cond.code yX5_setOfAll cX5_setOfAll 1 (some .int) ∈ BIG := big_t 360 (by decide +kernel) (by decide +kernel)
theorem m_t361 : Cond.methodLink RX1 36 yX4_hearFrom ∈ BIG := big_t 361 (by decide +kernel) (by decide +kernel)
theorem m_t362 : Cond.instanceMethod yX4_hearFrom ∈ BIG := big_t 362 (by decide +kernel) (by decide +kernel)
theorem m_t363 : Cond.selects RX4 yX4_hearFrom yX4_hearFrom ∈ BIG := big_t 363 (by decide +kernel) (by decide +kernel)
theorem m_t364 : Cond.code yX4_hearFrom cX4_hearFrom 9 (some .int) ∈ BIG := big_t 364 (by decide +kernel) (by decide +kernel)
theorem m_t365 : Cond.methodLink RX4 78 yX4_setThere ∈ BIG := big_t 365 (by decide +kernel) (by decide +kernel)
theorem m_t366 : Cond.methodLink RX1 15 yX1_tellChain ∈ BIG := big_t 366 (by decide +kernel) (by decide +kernel)
theorem m_t367 : Cond.static yX1_tellChain ∈ BIG := big_t 367 (by decide +kernel) (by decide +kernel)
theorem m_t368 : Cond.code yX1_tellChain cX1_tellChain 4 none ∈ BIG := big_t 368 (by decide +kernel) (by decide +kernel)
theorem m_t370 : Cond.methodLink RX1 51 yX4_youngestBut ∈ BIG := big_t 370 (by decide +kernel) (by decide +kernel)
theorem m_t371 : Cond.instanceMethod yX4_youngestBut ∈ BIG := big_t 371 (by decide +kernel) (by decide +kernel)
theorem m_t372 : Cond.selects RX4 yX4_youngestBut yX4_youngestBut ∈ BIG := big_t 372 (by decide +kernel) (by decide +kernel)
theorem m_t373 : Cond.code yX4_youngestBut cX4_youngestBut 4 (some .int) ∈ BIG := big_t 373 (by decide +kernel) (by decide +kernel)
theorem m_t374 : Cond.methodLink RX1 57 yX4_tellTo ∈ BIG := big_t 374 (by decide +kernel) (by decide +kernel)
theorem m_t375 : Cond.instanceMethod yX4_tellTo ∈ BIG := big_t 375 (by decide +kernel) (by decide +kernel)
theorem m_t376 : Cond.selects RX4 yX4_tellTo yX4_tellTo ∈ BIG := big_t 376 (by decide +kernel) (by decide +kernel)
theorem m_t377 : Cond.code yX4_tellTo cX4_tellTo 4 none ∈ BIG := big_t 377 (by decide +kernel) (by decide +kernel)
theorem m_t378 : Cond.methodLink RX4 101 yX4_gainByTelling ∈ BIG := big_t 378 (by decide +kernel) (by decide +kernel)
theorem m_t379 : Cond.instanceMethod yX4_gainByTelling ∈ BIG := big_t 379 (by decide +kernel) (by decide +kernel)
theorem m_t380 : Cond.selects RX4 yX4_gainByTelling yX4_gainByTelling ∈ BIG := big_t 380 (by decide +kernel) (by decide +kernel)
theorem m_t381 : Cond.code yX4_gainByTelling cX4_gainByTelling 4 (some .int) ∈ BIG := big_t 381 (by decide +kernel) (by decide +kernel)
theorem m_t382 : Cond.methodLink RX4 98 yX4_afterTelling ∈ BIG := big_t 382 (by decide +kernel) (by decide +kernel)
theorem m_t383 : Cond.static yX4_afterTelling ∈ BIG := big_t 383 (by decide +kernel) (by decide +kernel)
theorem m_t384 : Cond.code yX4_afterTelling cX4_afterTelling 2 (some .int) ∈ BIG := big_t 384 (by decide +kernel) (by decide +kernel)
theorem m_t385 : Cond.methodLink RX5 123 yX4_worthNow ∈ BIG := big_t 385 (by decide +kernel) (by decide +kernel)
theorem m_t386 : Cond.instanceMethod yX4_worthNow ∈ BIG := big_t 386 (by decide +kernel) (by decide +kernel)
theorem m_t387 : Cond.selects RX4 yX4_worthNow yX4_worthNow ∈ BIG := big_t 387 (by decide +kernel) (by decide +kernel)
theorem m_t388 : Cond.code yX4_worthNow cX4_worthNow 1 (some .int) ∈ BIG := big_t 388 (by decide +kernel) (by decide +kernel)
theorem m_t389 : Cond.methodLink RX4 82 yX4_worthAmong ∈ BIG := big_t 389 (by decide +kernel) (by decide +kernel)
theorem m_t390 : Cond.instanceMethod yX4_worthAmong ∈ BIG := big_t 390 (by decide +kernel) (by decide +kernel)
theorem m_t391 : Cond.selects RX4 yX4_worthAmong yX4_worthAmong ∈ BIG := big_t 391 (by decide +kernel) (by decide +kernel)
theorem m_t392 : Cond.code yX4_worthAmong cX4_worthAmong 4 (some .int) ∈ BIG := big_t 392 (by decide +kernel) (by decide +kernel)
theorem m_t393 : Cond.methodLink RX4 75 yX4_mostKnown ∈ BIG := big_t 393 (by decide +kernel) (by decide +kernel)
theorem m_t394 : Cond.instanceMethod yX4_mostKnown ∈ BIG := big_t 394 (by decide +kernel) (by decide +kernel)
theorem m_t395 : Cond.selects RX4 yX4_mostKnown yX4_mostKnown ∈ BIG := big_t 395 (by decide +kernel) (by decide +kernel)
theorem m_t396 : Cond.code yX4_mostKnown cX4_mostKnown 5 (some .int) ∈ BIG := big_t 396 (by decide +kernel) (by decide +kernel)
theorem m_t397 : Cond.methodLink RL 49 yX5_book ∈ BIG := big_t 397 (by decide +kernel) (by decide +kernel)
theorem m_t398 : Cond.instanceMethod yX5_book ∈ BIG := big_t 398 (by decide +kernel) (by decide +kernel)
theorem m_t399 : Cond.selects RX5 yX5_book yX5_book ∈ BIG := big_t 399 (by decide +kernel) (by decide +kernel)
theorem m_t400 : Cond.code yX5_book cX5_book 3 (some .int) ∈ BIG := big_t 400 (by decide +kernel) (by decide +kernel)
theorem m_t401 : Cond.methodLink RX5 131 yX5_isSetOf ∈ BIG := big_t 401 (by decide +kernel) (by decide +kernel)
theorem m_t402 : Cond.static yX5_isSetOf ∈ BIG := big_t 402 (by decide +kernel) (by decide +kernel)
theorem m_t403 : Cond.code yX5_isSetOf cX5_isSetOf 2 (some .boolean) ∈ BIG := big_t 403 (by decide +kernel) (by decide +kernel)
theorem m_t404 : Cond.methodLink RX5 186 yX5_setOfAll ∈ BIG := big_t 404 (by decide +kernel) (by decide +kernel)
theorem m_t405 : Cond.methodLink RX5 134 yX4_addBook ∈ BIG := big_t 405 (by decide +kernel) (by decide +kernel)
theorem m_t406 : Cond.instanceMethod yX4_addBook ∈ BIG := big_t 406 (by decide +kernel) (by decide +kernel)
theorem m_t407 : Cond.selects RX4 yX4_addBook yX4_addBook ∈ BIG := big_t 407 (by decide +kernel) (by decide +kernel)
theorem m_t408 : Cond.code yX4_addBook cX4_addBook 4 (some .int) ∈ BIG := big_t 408 (by decide +kernel) (by decide +kernel)
theorem m_t409 : Cond.methodLink RL 53 yX5_one ∈ BIG := big_t 409 (by decide +kernel) (by decide +kernel)
theorem m_t410 : Cond.instanceMethod yX5_one ∈ BIG := big_t 410 (by decide +kernel) (by decide +kernel)
theorem m_t411 : Cond.selects RX5 yX5_one yX5_one ∈ BIG := big_t 411 (by decide +kernel) (by decide +kernel)
theorem m_t412 : Cond.code yX5_one cX5_one 5 (some .int) ∈ BIG := big_t 412 (by decide +kernel) (by decide +kernel)
theorem m_t413 : Cond.methodLink RX5 137 yX5_canBeOne ∈ BIG := big_t 413 (by decide +kernel) (by decide +kernel)
theorem m_t414 : Cond.static yX5_canBeOne ∈ BIG := big_t 414 (by decide +kernel) (by decide +kernel)
theorem m_t415 : Cond.code yX5_canBeOne cX5_canBeOne 8 (some .boolean) ∈ BIG := big_t 415 (by decide +kernel) (by decide +kernel)
theorem m_t416 : Cond.constantLong RX5 357 9 ∈ BIG := big_t 416 (by decide +kernel) (by decide +kernel)
theorem m_t417 : Cond.constantLong RX5 359 10 ∈ BIG := big_t 417 (by decide +kernel) (by decide +kernel)
theorem m_t418 : Cond.methodLink RX5 144 yX4_addOne ∈ BIG := big_t 418 (by decide +kernel) (by decide +kernel)
theorem m_t419 : Cond.instanceMethod yX4_addOne ∈ BIG := big_t 419 (by decide +kernel) (by decide +kernel)
theorem m_t420 : Cond.selects RX4 yX4_addOne yX4_addOne ∈ BIG := big_t 420 (by decide +kernel) (by decide +kernel)
theorem m_t421 : Cond.code yX4_addOne cX4_addOne 6 (some .int) ∈ BIG := big_t 421 (by decide +kernel) (by decide +kernel)
theorem m_t422 : Cond.methodLink RL 58 yX5_ones ∈ BIG := big_t 422 (by decide +kernel) (by decide +kernel)
theorem m_t423 : Cond.instanceMethod yX5_ones ∈ BIG := big_t 423 (by decide +kernel) (by decide +kernel)
theorem m_t424 : Cond.selects RX5 yX5_ones yX5_ones ∈ BIG := big_t 424 (by decide +kernel) (by decide +kernel)
theorem m_t425 : Cond.code yX5_ones cX5_ones 14 (some .int) ∈ BIG := big_t 425 (by decide +kernel) (by decide +kernel)
theorem m_t426 : Cond.methodLink RL 62 yX5_feed ∈ BIG := big_t 426 (by decide +kernel) (by decide +kernel)
theorem m_t427 : Cond.instanceMethod yX5_feed ∈ BIG := big_t 427 (by decide +kernel) (by decide +kernel)
theorem m_t428 : Cond.selects RX5 yX5_feed yX5_feed ∈ BIG := big_t 428 (by decide +kernel) (by decide +kernel)
theorem m_t429 : Cond.code yX5_feed cX5_feed 4 (some .int) ∈ BIG := big_t 429 (by decide +kernel) (by decide +kernel)
theorem m_t430 : Cond.methodLink RX5 150 yX3_append ∈ BIG := big_t 430 (by decide +kernel) (by decide +kernel)
theorem m_t431 : Cond.instanceMethod yX3_append ∈ BIG := big_t 431 (by decide +kernel) (by decide +kernel)
theorem m_t432 : Cond.selects RX3 yX3_append yX3_append ∈ BIG := big_t 432 (by decide +kernel) (by decide +kernel)
theorem m_t433 : Cond.code yX3_append cX3_append 2 none ∈ BIG := big_t 433 (by decide +kernel) (by decide +kernel)
theorem m_t434 : Cond.methodLink RL 66 yX5_wipe ∈ BIG := big_t 434 (by decide +kernel) (by decide +kernel)
theorem m_t435 : Cond.instanceMethod yX5_wipe ∈ BIG := big_t 435 (by decide +kernel) (by decide +kernel)
theorem m_t436 : Cond.selects RX5 yX5_wipe yX5_wipe ∈ BIG := big_t 436 (by decide +kernel) (by decide +kernel)
theorem m_t437 : Cond.code yX5_wipe cX5_wipe 2 (some .int) ∈ BIG := big_t 437 (by decide +kernel) (by decide +kernel)
theorem m_t438 : Cond.methodLink RL 71 yX5_town ∈ BIG := big_t 438 (by decide +kernel) (by decide +kernel)
theorem m_t439 : Cond.instanceMethod yX5_town ∈ BIG := big_t 439 (by decide +kernel) (by decide +kernel)
theorem m_t440 : Cond.selects RX5 yX5_town yX5_town ∈ BIG := big_t 440 (by decide +kernel) (by decide +kernel)
theorem m_t441 : Cond.code yX5_town cX5_town 2 (some .int) ∈ BIG := big_t 441 (by decide +kernel) (by decide +kernel)
theorem m_t442 : Cond.methodLink RX5 154 yX3_readFrom ∈ BIG := big_t 442 (by decide +kernel) (by decide +kernel)
theorem m_t443 : Cond.instanceMethod yX3_readFrom ∈ BIG := big_t 443 (by decide +kernel) (by decide +kernel)
theorem m_t444 : Cond.selects RX3 yX3_readFrom yX3_readFrom ∈ BIG := big_t 444 (by decide +kernel) (by decide +kernel)
theorem m_t445 : Cond.code yX3_readFrom cX3_readFrom 3 (some .int) ∈ BIG := big_t 445 (by decide +kernel) (by decide +kernel)
theorem m_t446 : Cond.methodLink RX3 26 yX4_become ∈ BIG := big_t 446 (by decide +kernel) (by decide +kernel)
theorem m_t447 : Cond.methodLink RX3 36 yX3_step ∈ BIG := big_t 447 (by decide +kernel) (by decide +kernel)
theorem m_t449 : Cond.instanceMethod yX3_step ∈ BIG := big_t 449 (by decide +kernel) (by decide +kernel)
theorem m_t450 : Cond.code yX3_step cX3_step 2 none ∈ BIG := big_t 450 (by decide +kernel) (by decide +kernel)
theorem m_t451 : Cond.methodLink RX3 133 yX3_sortAt ∈ BIG := big_t 451 (by decide +kernel) (by decide +kernel)
theorem m_t453 : Cond.instanceMethod yX3_sortAt ∈ BIG := big_t 453 (by decide +kernel) (by decide +kernel)
theorem m_t454 : Cond.code yX3_sortAt cX3_sortAt 3 (some .int) ∈ BIG := big_t 454 (by decide +kernel) (by decide +kernel)
theorem m_t455 : Cond.methodLink RX3 39 yX3_readStatement ∈ BIG := big_t 455 (by decide +kernel) (by decide +kernel)
theorem m_t457 : Cond.instanceMethod yX3_readStatement ∈ BIG := big_t 457 (by decide +kernel) (by decide +kernel)
theorem m_t458 : Cond.code yX3_readStatement cX3_readStatement 1 none ∈ BIG := big_t 458 (by decide +kernel) (by decide +kernel)
theorem m_t460 : Cond.methodLink RX3 50 yX3_isWord ∈ BIG := big_t 460 (by decide +kernel) (by decide +kernel)
theorem m_t462 : Cond.instanceMethod yX3_isWord ∈ BIG := big_t 462 (by decide +kernel) (by decide +kernel)
theorem m_t463 : Cond.code yX3_isWord cX3_isWord 3 (some .boolean) ∈ BIG := big_t 463 (by decide +kernel) (by decide +kernel)
theorem m_t464 : Cond.methodLink RX3 124 yJ0_length_8abf5 ∈ BIG := big_t 464 (by decide +kernel) (by decide +kernel)
theorem m_t465 : Cond.instanceMethod yJ0_length_8abf5 ∈ BIG := big_t 465 (by decide +kernel) (by decide +kernel)
theorem m_t466 : Cond.selects RJ0 yJ0_length_8abf5 yJ0_length_8abf5 ∈ BIG := big_t 466 (by decide +kernel) (by decide +kernel)
theorem m_t467 : Cond.code yJ0_length_8abf5 cJ0_length_8abf5 1 (some .int) ∈ BIG := big_t 467 (by decide +kernel) (by decide +kernel)
theorem m_t468 : Cond.methodLink RJ0 335 yJ0_coder_7d493 ∈ BIG := big_t 468 (by decide +kernel) (by decide +kernel)
theorem m_t469 : Cond.instanceMethod yJ0_coder_7d493 ∈ BIG := big_t 469 (by decide +kernel) (by decide +kernel)
theorem m_t470 : Cond.selects RJ0 yJ0_coder_7d493 yJ0_coder_7d493 ∈ BIG := big_t 470 (by decide +kernel) (by decide +kernel)
theorem m_t471 : Cond.code yJ0_coder_7d493 cJ0_coder_7d493 1 (some .byte) ∈ BIG := big_t 471 (by decide +kernel) (by decide +kernel)
theorem m_t472 : Cond.fieldLink RJ0 38 "java/lang/String" "COMPACT_STRINGS" "Z" ∈ BIG := big_t 472 (by decide +kernel) (by decide +kernel)
theorem m_t474 : Cond.methodLink RX3 129 yJ0_charAt_5068e ∈ BIG := big_t 474 (by decide +kernel) (by decide +kernel)
theorem m_t475 : Cond.instanceMethod yJ0_charAt_5068e ∈ BIG := big_t 475 (by decide +kernel) (by decide +kernel)
theorem m_t476 : Cond.selects RJ0 yJ0_charAt_5068e yJ0_charAt_5068e ∈ BIG := big_t 476 (by decide +kernel) (by decide +kernel)
theorem m_t477 : Cond.code yJ0_charAt_5068e cJ0_charAt_5068e 2 (some .char) ∈ BIG := big_t 477 (by decide +kernel) (by decide +kernel)
theorem m_t478 : Cond.methodLink RJ0 492 yJ0_isLatin1_aae02 ∈ BIG := big_t 478 (by decide +kernel) (by decide +kernel)
theorem m_t479 : Cond.instanceMethod yJ0_isLatin1_aae02 ∈ BIG := big_t 479 (by decide +kernel) (by decide +kernel)
theorem m_t480 : Cond.selects RJ0 yJ0_isLatin1_aae02 yJ0_isLatin1_aae02 ∈ BIG := big_t 480 (by decide +kernel) (by decide +kernel)
theorem m_t481 : Cond.code yJ0_isLatin1_aae02 cJ0_isLatin1_aae02 1 (some .boolean) ∈ BIG := big_t 481 (by decide +kernel) (by decide +kernel)
theorem m_t482 : Cond.methodLink RJ0 495 yJ1_charAt_3b067 ∈ BIG := big_t 482 (by decide +kernel) (by decide +kernel)
theorem m_t483 : Cond.static yJ1_charAt_3b067 ∈ BIG := big_t 483 (by decide +kernel) (by decide +kernel)
theorem m_t484 : Cond.code yJ1_charAt_3b067 cJ1_charAt_3b067 2 (some .char) ∈ BIG := big_t 484 (by decide +kernel) (by decide +kernel)
theorem m_t485 : Cond.methodLink RJ1 9 yJ0_checkIndex_df160 ∈ BIG := big_t 485 (by decide +kernel) (by decide +kernel)
theorem m_t486 : Cond.static yJ0_checkIndex_df160 ∈ BIG := big_t 486 (by decide +kernel) (by decide +kernel)
theorem m_t487 : Cond.code yJ0_checkIndex_df160 cJ0_checkIndex_df160 2 none ∈ BIG := big_t 487 (by decide +kernel) (by decide +kernel)
theorem m_t488 : Cond.fieldLink RJ0 1053 "jdk/internal/util/Preconditions" "SIOOBE_FORMATTER" "Ljava/util/function/BiFunction;" ∈ BIG := big_t 488 (by decide +kernel) (by decide +kernel)
theorem m_t490 : Cond.methodLink RJ0 1059 yJ3_checkIndex_8e157 ∈ BIG := big_t 490 (by decide +kernel) (by decide +kernel)
theorem m_t491 : Cond.static yJ3_checkIndex_8e157 ∈ BIG := big_t 491 (by decide +kernel) (by decide +kernel)
theorem m_t492 : Cond.code yJ3_checkIndex_8e157 cJ3_checkIndex_8e157 3 (some .int) ∈ BIG := big_t 492 (by decide +kernel) (by decide +kernel)
theorem m_t493 : Cond.methodLink RJ0 498 yJ2_charAt_3b067 ∈ BIG := big_t 493 (by decide +kernel) (by decide +kernel)
theorem m_t494 : Cond.static yJ2_charAt_3b067 ∈ BIG := big_t 494 (by decide +kernel) (by decide +kernel)
theorem m_t495 : Cond.code yJ2_charAt_3b067 cJ2_charAt_3b067 2 (some .char) ∈ BIG := big_t 495 (by decide +kernel) (by decide +kernel)
theorem m_t496 : Cond.methodLink RJ2 67 yJ2_checkIndex_2214a ∈ BIG := big_t 496 (by decide +kernel) (by decide +kernel)
theorem m_t497 : Cond.static yJ2_checkIndex_2214a ∈ BIG := big_t 497 (by decide +kernel) (by decide +kernel)
theorem m_t498 : Cond.code yJ2_checkIndex_2214a cJ2_checkIndex_2214a 2 none ∈ BIG := big_t 498 (by decide +kernel) (by decide +kernel)
theorem m_t499 : Cond.methodLink RJ2 48 yJ2_length_9d52b ∈ BIG := big_t 499 (by decide +kernel) (by decide +kernel)
theorem m_t500 : Cond.static yJ2_length_9d52b ∈ BIG := big_t 500 (by decide +kernel) (by decide +kernel)
theorem m_t501 : Cond.code yJ2_length_9d52b cJ2_length_9d52b 1 (some .int) ∈ BIG := big_t 501 (by decide +kernel) (by decide +kernel)
theorem m_t502 : Cond.methodLink RJ2 414 yJ0_checkIndex_df160 ∈ BIG := big_t 502 (by decide +kernel) (by decide +kernel)
theorem m_t503 : Cond.methodLink RJ2 71 yJ2_getChar_3b067 ∈ BIG := big_t 503 (by decide +kernel) (by decide +kernel)
theorem m_t504 : Cond.static yJ2_getChar_3b067 ∈ BIG := big_t 504 (by decide +kernel) (by decide +kernel)
theorem m_t505 : Cond.code yJ2_getChar_3b067 cJ2_getChar_3b067 2 (some .char) ∈ BIG := big_t 505 (by decide +kernel) (by decide +kernel)
theorem m_t506 : Cond.fieldLink RJ2 44 "java/lang/StringUTF16" "$assertionsDisabled" "Z" ∈ BIG := big_t 506 (by decide +kernel) (by decide +kernel)
theorem m_t508 : Cond.fieldLink RJ2 59 "java/lang/StringUTF16" "HI_BYTE_SHIFT" "I" ∈ BIG := big_t 508 (by decide +kernel) (by decide +kernel)
theorem m_t510 : Cond.fieldLink RJ2 63 "java/lang/StringUTF16" "LO_BYTE_SHIFT" "I" ∈ BIG := big_t 510 (by decide +kernel) (by decide +kernel)
theorem m_t512 : Cond.methodLink RX3 54 yX3_readBook ∈ BIG := big_t 512 (by decide +kernel) (by decide +kernel)
theorem m_t514 : Cond.instanceMethod yX3_readBook ∈ BIG := big_t 514 (by decide +kernel) (by decide +kernel)
theorem m_t515 : Cond.code yX3_readBook cX3_readBook 3 none ∈ BIG := big_t 515 (by decide +kernel) (by decide +kernel)
theorem m_t516 : Cond.methodLink RX3 45 yX3_fail ∈ BIG := big_t 516 (by decide +kernel) (by decide +kernel)
theorem m_t518 : Cond.instanceMethod yX3_fail ∈ BIG := big_t 518 (by decide +kernel) (by decide +kernel)
theorem m_t519 : Cond.code yX3_fail cX3_fail 1 none ∈ BIG := big_t 519 (by decide +kernel) (by decide +kernel)
theorem m_t520 : Cond.methodLink RX3 80 yX3_takeNumber ∈ BIG := big_t 520 (by decide +kernel) (by decide +kernel)
theorem m_t522 : Cond.instanceMethod yX3_takeNumber ∈ BIG := big_t 522 (by decide +kernel) (by decide +kernel)
theorem m_t523 : Cond.code yX3_takeNumber cX3_takeNumber 4 (some .int) ∈ BIG := big_t 523 (by decide +kernel) (by decide +kernel)
theorem m_t524 : Cond.methodLink RX3 117 yX3_numberThere ∈ BIG := big_t 524 (by decide +kernel) (by decide +kernel)
theorem m_t526 : Cond.instanceMethod yX3_numberThere ∈ BIG := big_t 526 (by decide +kernel) (by decide +kernel)
theorem m_t527 : Cond.code yX3_numberThere cX3_numberThere 3 (some .int) ∈ BIG := big_t 527 (by decide +kernel) (by decide +kernel)
theorem m_t529 : Cond.methodLink RX3 86 yX3_passes ∈ BIG := big_t 529 (by decide +kernel) (by decide +kernel)
theorem m_t531 : Cond.instanceMethod yX3_passes ∈ BIG := big_t 531 (by decide +kernel) (by decide +kernel)
theorem m_t532 : Cond.code yX3_passes cX3_passes 2 (some .boolean) ∈ BIG := big_t 532 (by decide +kernel) (by decide +kernel)
theorem m_t533 : Cond.methodLink RX3 92 yX4_addBook ∈ BIG := big_t 533 (by decide +kernel) (by decide +kernel)
theorem m_t535 : Cond.methodLink RX3 59 yX3_readNeed ∈ BIG := big_t 535 (by decide +kernel) (by decide +kernel)
theorem m_t537 : Cond.instanceMethod yX3_readNeed ∈ BIG := big_t 537 (by decide +kernel) (by decide +kernel)
theorem m_t538 : Cond.code yX3_readNeed cX3_readNeed 3 none ∈ BIG := big_t 538 (by decide +kernel) (by decide +kernel)
theorem m_t540 : Cond.methodLink RX3 64 yX3_readOne ∈ BIG := big_t 540 (by decide +kernel) (by decide +kernel)
theorem m_t542 : Cond.instanceMethod yX3_readOne ∈ BIG := big_t 542 (by decide +kernel) (by decide +kernel)
theorem m_t543 : Cond.code yX3_readOne cX3_readOne 5 none ∈ BIG := big_t 543 (by decide +kernel) (by decide +kernel)
theorem m_t547 : Cond.methodLink RX3 107 yX4_addOne ∈ BIG := big_t 547 (by decide +kernel) (by decide +kernel)
theorem m_t549 : Cond.methodLink RX3 69 yX3_readKnows ∈ BIG := big_t 549 (by decide +kernel) (by decide +kernel)
theorem m_t551 : Cond.instanceMethod yX3_readKnows ∈ BIG := big_t 551 (by decide +kernel) (by decide +kernel)
theorem m_t552 : Cond.code yX3_readKnows cX3_readKnows 4 none ∈ BIG := big_t 552 (by decide +kernel) (by decide +kernel)
theorem m_t553 : Cond.methodLink RX3 111 yX4_learn ∈ BIG := big_t 553 (by decide +kernel) (by decide +kernel)
theorem m_t555 : Cond.methodLink RX3 74 yX3_readWhite ∈ BIG := big_t 555 (by decide +kernel) (by decide +kernel)
theorem m_t557 : Cond.instanceMethod yX3_readWhite ∈ BIG := big_t 557 (by decide +kernel) (by decide +kernel)
theorem m_t558 : Cond.code yX3_readWhite cX3_readWhite 2 none ∈ BIG := big_t 558 (by decide +kernel) (by decide +kernel)
theorem m_t559 : Cond.methodLink RX5 164 yX4_become ∈ BIG := big_t 559 (by decide +kernel) (by decide +kernel)
theorem m_t560 : Cond.methodLink RL 75 yX5_bookOf ∈ BIG := big_t 560 (by decide +kernel) (by decide +kernel)
theorem m_t561 : Cond.instanceMethod yX5_bookOf ∈ BIG := big_t 561 (by decide +kernel) (by decide +kernel)
theorem m_t562 : Cond.selects RX5 yX5_bookOf yX5_bookOf ∈ BIG := big_t 562 (by decide +kernel) (by decide +kernel)
theorem m_t563 : Cond.code yX5_bookOf cX5_bookOf 3 (some .int) ∈ BIG := big_t 563 (by decide +kernel) (by decide +kernel)
theorem m_t564 : Cond.methodLink RX5 168 yX4_isBook ∈ BIG := big_t 564 (by decide +kernel) (by decide +kernel)
theorem m_t565 : Cond.instanceMethod yX4_isBook ∈ BIG := big_t 565 (by decide +kernel) (by decide +kernel)
theorem m_t566 : Cond.selects RX4 yX4_isBook yX4_isBook ∈ BIG := big_t 566 (by decide +kernel) (by decide +kernel)
theorem m_t567 : Cond.code yX4_isBook cX4_isBook 2 (some .boolean) ∈ BIG := big_t 567 (by decide +kernel) (by decide +kernel)
theorem m_t568 : Cond.methodLink RX5 183 yX5_has ∈ BIG := big_t 568 (by decide +kernel) (by decide +kernel)
theorem m_t569 : Cond.methodLink RX5 189 yX4_mostKnown ∈ BIG := big_t 569 (by decide +kernel) (by decide +kernel)
theorem m_t570 : Cond.methodLink RL 79 yX5_oneOf ∈ BIG := big_t 570 (by decide +kernel) (by decide +kernel)
theorem m_t571 : Cond.instanceMethod yX5_oneOf ∈ BIG := big_t 571 (by decide +kernel) (by decide +kernel)
theorem m_t572 : Cond.selects RX5 yX5_oneOf yX5_oneOf ∈ BIG := big_t 572 (by decide +kernel) (by decide +kernel)
theorem m_t573 : Cond.code yX5_oneOf cX5_oneOf 3 (some .int) ∈ BIG := big_t 573 (by decide +kernel) (by decide +kernel)
theorem m_t574 : Cond.methodLink RX5 192 yX4_isOne ∈ BIG := big_t 574 (by decide +kernel) (by decide +kernel)
theorem m_t575 : Cond.instanceMethod yX4_isOne ∈ BIG := big_t 575 (by decide +kernel) (by decide +kernel)
theorem m_t576 : Cond.selects RX4 yX4_isOne yX4_isOne ∈ BIG := big_t 576 (by decide +kernel) (by decide +kernel)
theorem m_t577 : Cond.code yX4_isOne cX4_isOne 2 (some .boolean) ∈ BIG := big_t 577 (by decide +kernel) (by decide +kernel)
theorem m_t578 : Cond.methodLink RL 83 yX5_known ∈ BIG := big_t 578 (by decide +kernel) (by decide +kernel)
theorem m_t579 : Cond.instanceMethod yX5_known ∈ BIG := big_t 579 (by decide +kernel) (by decide +kernel)
theorem m_t580 : Cond.selects RX5 yX5_known yX5_known ∈ BIG := big_t 580 (by decide +kernel) (by decide +kernel)
theorem m_t581 : Cond.code yX5_known cX5_known 3 (some .int) ∈ BIG := big_t 581 (by decide +kernel) (by decide +kernel)
theorem m_t582 : Cond.methodLink RX5 210 yX5_isPair ∈ BIG := big_t 582 (by decide +kernel) (by decide +kernel)
theorem m_t584 : Cond.instanceMethod yX5_isPair ∈ BIG := big_t 584 (by decide +kernel) (by decide +kernel)
theorem m_t585 : Cond.code yX5_isPair cX5_isPair 3 (some .boolean) ∈ BIG := big_t 585 (by decide +kernel) (by decide +kernel)
theorem m_t586 : Cond.methodLink RX5 213 yX4_knows ∈ BIG := big_t 586 (by decide +kernel) (by decide +kernel)
theorem m_t587 : Cond.methodLink RL 87 yX5_alter ∈ BIG := big_t 587 (by decide +kernel) (by decide +kernel)
theorem m_t588 : Cond.instanceMethod yX5_alter ∈ BIG := big_t 588 (by decide +kernel) (by decide +kernel)
theorem m_t589 : Cond.selects RX5 yX5_alter yX5_alter ∈ BIG := big_t 589 (by decide +kernel) (by decide +kernel)
theorem m_t590 : Cond.code yX5_alter cX5_alter 5 (some .int) ∈ BIG := big_t 590 (by decide +kernel) (by decide +kernel)
theorem m_t591 : Cond.constantLong RX5 216 1000 ∈ BIG := big_t 591 (by decide +kernel) (by decide +kernel)
theorem m_t592 : Cond.methodLink RX5 218 yX4_learn ∈ BIG := big_t 592 (by decide +kernel) (by decide +kernel)
theorem m_t593 : Cond.methodLink RL 91 yX5_ground ∈ BIG := big_t 593 (by decide +kernel) (by decide +kernel)
theorem m_t594 : Cond.instanceMethod yX5_ground ∈ BIG := big_t 594 (by decide +kernel) (by decide +kernel)
theorem m_t595 : Cond.selects RX5 yX5_ground yX5_ground ∈ BIG := big_t 595 (by decide +kernel) (by decide +kernel)
theorem m_t596 : Cond.code yX5_ground cX5_ground 3 (some .int) ∈ BIG := big_t 596 (by decide +kernel) (by decide +kernel)
theorem m_t597 : Cond.methodLink RX5 221 yX4_groundOf ∈ BIG := big_t 597 (by decide +kernel) (by decide +kernel)
theorem m_t598 : Cond.methodLink RL 95 yX5_would ∈ BIG := big_t 598 (by decide +kernel) (by decide +kernel)
theorem m_t599 : Cond.instanceMethod yX5_would ∈ BIG := big_t 599 (by decide +kernel) (by decide +kernel)
theorem m_t600 : Cond.selects RX5 yX5_would yX5_would ∈ BIG := big_t 600 (by decide +kernel) (by decide +kernel)
theorem m_t601 : Cond.code yX5_would cX5_would 4 (some .int) ∈ BIG := big_t 601 (by decide +kernel) (by decide +kernel)
theorem m_t602 : Cond.methodLink RX5 224 yX5_readFit ∈ BIG := big_t 602 (by decide +kernel) (by decide +kernel)
theorem m_t604 : Cond.instanceMethod yX5_readFit ∈ BIG := big_t 604 (by decide +kernel) (by decide +kernel)
theorem m_t605 : Cond.code yX5_readFit cX5_readFit 3 (some .int) ∈ BIG := big_t 605 (by decide +kernel) (by decide +kernel)
theorem m_t606 : Cond.methodLink RX5 227 yX4_wouldKnow ∈ BIG := big_t 606 (by decide +kernel) (by decide +kernel)
theorem m_t607 : Cond.methodLink RL 99 yX5_read ∈ BIG := big_t 607 (by decide +kernel) (by decide +kernel)
theorem m_t608 : Cond.instanceMethod yX5_read ∈ BIG := big_t 608 (by decide +kernel) (by decide +kernel)
theorem m_t609 : Cond.selects RX5 yX5_read yX5_read ∈ BIG := big_t 609 (by decide +kernel) (by decide +kernel)
theorem m_t610 : Cond.code yX5_read cX5_read 4 (some .int) ∈ BIG := big_t 610 (by decide +kernel) (by decide +kernel)
theorem m_t611 : Cond.methodLink RX5 230 yX4_readBy ∈ BIG := big_t 611 (by decide +kernel) (by decide +kernel)
theorem m_t612 : Cond.methodLink RL 103 yX5_aloud ∈ BIG := big_t 612 (by decide +kernel) (by decide +kernel)
theorem m_t613 : Cond.instanceMethod yX5_aloud ∈ BIG := big_t 613 (by decide +kernel) (by decide +kernel)
theorem m_t614 : Cond.selects RX5 yX5_aloud yX5_aloud ∈ BIG := big_t 614 (by decide +kernel) (by decide +kernel)
theorem m_t615 : Cond.code yX5_aloud cX5_aloud 5 (some .int) ∈ BIG := big_t 615 (by decide +kernel) (by decide +kernel)
theorem m_t616 : Cond.methodLink RX5 234 yX4_hearFrom ∈ BIG := big_t 616 (by decide +kernel) (by decide +kernel)
theorem m_t617 : Cond.methodLink RL 107 yX5_tell ∈ BIG := big_t 617 (by decide +kernel) (by decide +kernel)
theorem m_t618 : Cond.instanceMethod yX5_tell ∈ BIG := big_t 618 (by decide +kernel) (by decide +kernel)
theorem m_t619 : Cond.selects RX5 yX5_tell yX5_tell ∈ BIG := big_t 619 (by decide +kernel) (by decide +kernel)
theorem m_t620 : Cond.code yX5_tell cX5_tell 5 (some .int) ∈ BIG := big_t 620 (by decide +kernel) (by decide +kernel)
theorem m_t621 : Cond.methodLink RX5 238 yX4_gainByTelling ∈ BIG := big_t 621 (by decide +kernel) (by decide +kernel)
theorem m_t622 : Cond.methodLink RX5 241 yX4_tellTo ∈ BIG := big_t 622 (by decide +kernel) (by decide +kernel)
theorem m_t623 : Cond.methodLink RL 111 yX5_write ∈ BIG := big_t 623 (by decide +kernel) (by decide +kernel)
theorem m_t624 : Cond.instanceMethod yX5_write ∈ BIG := big_t 624 (by decide +kernel) (by decide +kernel)
theorem m_t625 : Cond.selects RX5 yX5_write yX5_write ∈ BIG := big_t 625 (by decide +kernel) (by decide +kernel)
theorem m_t626 : Cond.code yX5_write cX5_write 3 (some .int) ∈ BIG := big_t 626 (by decide +kernel) (by decide +kernel)
theorem m_t627 : Cond.methodLink RX5 244 yX4_writeBy ∈ BIG := big_t 627 (by decide +kernel) (by decide +kernel)
theorem m_t628 : Cond.instanceMethod yX4_writeBy ∈ BIG := big_t 628 (by decide +kernel) (by decide +kernel)
theorem m_t629 : Cond.selects RX4 yX4_writeBy yX4_writeBy ∈ BIG := big_t 629 (by decide +kernel) (by decide +kernel)
theorem m_t630 : Cond.code yX4_writeBy cX4_writeBy 3 (some .int) ∈ BIG := big_t 630 (by decide +kernel) (by decide +kernel)
theorem m_t631 : Cond.methodLink RL 115 yX5_value ∈ BIG := big_t 631 (by decide +kernel) (by decide +kernel)
theorem m_t632 : Cond.instanceMethod yX5_value ∈ BIG := big_t 632 (by decide +kernel) (by decide +kernel)
theorem m_t633 : Cond.selects RX5 yX5_value yX5_value ∈ BIG := big_t 633 (by decide +kernel) (by decide +kernel)
theorem m_t634 : Cond.code yX5_value cX5_value 1 (some .int) ∈ BIG := big_t 634 (by decide +kernel) (by decide +kernel)
theorem m_t635 : Cond.methodLink RL 119 yX5_reader ∈ BIG := big_t 635 (by decide +kernel) (by decide +kernel)
theorem m_t636 : Cond.instanceMethod yX5_reader ∈ BIG := big_t 636 (by decide +kernel) (by decide +kernel)
theorem m_t637 : Cond.selects RX5 yX5_reader yX5_reader ∈ BIG := big_t 637 (by decide +kernel) (by decide +kernel)
theorem m_t638 : Cond.code yX5_reader cX5_reader 2 (some .int) ∈ BIG := big_t 638 (by decide +kernel) (by decide +kernel)
theorem m_t639 : Cond.methodLink RX5 247 yX4_bestReader ∈ BIG := big_t 639 (by decide +kernel) (by decide +kernel)
theorem m_t640 : Cond.methodLink RL 123 yX5_run ∈ BIG := big_t 640 (by decide +kernel) (by decide +kernel)
theorem m_t641 : Cond.instanceMethod yX5_run ∈ BIG := big_t 641 (by decide +kernel) (by decide +kernel)
theorem m_t642 : Cond.selects RX5 yX5_run yX5_run ∈ BIG := big_t 642 (by decide +kernel) (by decide +kernel)
theorem m_t643 : Cond.code yX5_run cX5_run 6 (some .int) ∈ BIG := big_t 643 (by decide +kernel) (by decide +kernel)
theorem m_t644 : Cond.constantLong RX5 250 60 ∈ BIG := big_t 644 (by decide +kernel) (by decide +kernel)
theorem m_t645 : Cond.constantLong RX5 252 3 ∈ BIG := big_t 645 (by decide +kernel) (by decide +kernel)
theorem m_t646 : Cond.methodLink RX5 254 yX0_sumOfRun ∈ BIG := big_t 646 (by decide +kernel) (by decide +kernel)
theorem m_t647 : Cond.instanceMethod yX0_sumOfRun ∈ BIG := big_t 647 (by decide +kernel) (by decide +kernel)
theorem m_t648 : Cond.selects RX0 yX0_sumOfRun yX0_sumOfRun ∈ BIG := big_t 648 (by decide +kernel) (by decide +kernel)
theorem m_t649 : Cond.code yX0_sumOfRun cX0_sumOfRun 7 (some .int) ∈ BIG := big_t 649 (by decide +kernel) (by decide +kernel)
theorem m_t650 : Cond.methodLink RX0 25 yX4_setThere ∈ BIG := big_t 650 (by decide +kernel) (by decide +kernel)
theorem m_t651 : Cond.methodLink RX0 33 yX1_act ∈ BIG := big_t 651 (by decide +kernel) (by decide +kernel)
theorem m_t652 : Cond.methodLink RX0 39 yX4_worthNow ∈ BIG := big_t 652 (by decide +kernel) (by decide +kernel)
theorem m_t653 : Cond.methodLink RX0 42 yX4_endYear ∈ BIG := big_t 653 (by decide +kernel) (by decide +kernel)
theorem m_t654 : Cond.instanceMethod yX4_endYear ∈ BIG := big_t 654 (by decide +kernel) (by decide +kernel)
theorem m_t655 : Cond.selects RX4 yX4_endYear yX4_endYear ∈ BIG := big_t 655 (by decide +kernel) (by decide +kernel)
theorem m_t656 : Cond.code yX4_endYear cX4_endYear 3 (some .int) ∈ BIG := big_t 656 (by decide +kernel) (by decide +kernel)
theorem m_t657 : Cond.methodLink RX4 111 yX4_forget ∈ BIG := big_t 657 (by decide +kernel) (by decide +kernel)
theorem m_t659 : Cond.instanceMethod yX4_forget ∈ BIG := big_t 659 (by decide +kernel) (by decide +kernel)
theorem m_t660 : Cond.code yX4_forget cX4_forget 4 none ∈ BIG := big_t 660 (by decide +kernel) (by decide +kernel)
theorem m_t661 : Cond.methodLink RX4 115 yJ6_bitCount_0f7a4 ∈ BIG := big_t 661 (by decide +kernel) (by decide +kernel)
theorem m_t662 : Cond.static yJ6_bitCount_0f7a4 ∈ BIG := big_t 662 (by decide +kernel) (by decide +kernel)
theorem m_t663 : Cond.code yJ6_bitCount_0f7a4 cJ6_bitCount_0f7a4 1 (some .int) ∈ BIG := big_t 663 (by decide +kernel) (by decide +kernel)
theorem m_t664 : Cond.constant RJ6 265 1431655765 ∈ BIG := big_t 664 (by decide +kernel) (by decide +kernel)
theorem m_t665 : Cond.constant RJ6 266 858993459 ∈ BIG := big_t 665 (by decide +kernel) (by decide +kernel)
theorem m_t666 : Cond.constant RJ6 267 252645135 ∈ BIG := big_t 666 (by decide +kernel) (by decide +kernel)
theorem m_t667 : Cond.methodLink RX5 264 yJ6_bitCount_0f7a4 ∈ BIG := big_t 667 (by decide +kernel) (by decide +kernel)
theorem m_t668 : Cond.methodLink RX5 269 yX4_setThere ∈ BIG := big_t 668 (by decide +kernel) (by decide +kernel)
theorem m_t669 : Cond.methodLink RL 127 yX5_head ∈ BIG := big_t 669 (by decide +kernel) (by decide +kernel)
theorem m_t670 : Cond.instanceMethod yX5_head ∈ BIG := big_t 670 (by decide +kernel) (by decide +kernel)
theorem m_t671 : Cond.selects RX5 yX5_head yX5_head ∈ BIG := big_t 671 (by decide +kernel) (by decide +kernel)
theorem m_t672 : Cond.code yX5_head cX5_head 6 (some .int) ∈ BIG := big_t 672 (by decide +kernel) (by decide +kernel)
theorem m_t673 : Cond.methodLink RL 131 yX5_who ∈ BIG := big_t 673 (by decide +kernel) (by decide +kernel)
theorem m_t674 : Cond.instanceMethod yX5_who ∈ BIG := big_t 674 (by decide +kernel) (by decide +kernel)
theorem m_t675 : Cond.selects RX5 yX5_who yX5_who ∈ BIG := big_t 675 (by decide +kernel) (by decide +kernel)
theorem m_t676 : Cond.code yX5_who cX5_who 3 (some .int) ∈ BIG := big_t 676 (by decide +kernel) (by decide +kernel)
theorem m_t677 : Cond.methodLink RX5 272 yX0_bestWho ∈ BIG := big_t 677 (by decide +kernel) (by decide +kernel)
theorem m_t678 : Cond.instanceMethod yX0_bestWho ∈ BIG := big_t 678 (by decide +kernel) (by decide +kernel)
theorem m_t679 : Cond.selects RX0 yX0_bestWho yX0_bestWho ∈ BIG := big_t 679 (by decide +kernel) (by decide +kernel)
theorem m_t680 : Cond.code yX0_bestWho cX0_bestWho 7 (some .int) ∈ BIG := big_t 680 (by decide +kernel) (by decide +kernel)
theorem m_t682 : Cond.methodLink RX0 56 yX4_readBy ∈ BIG := big_t 682 (by decide +kernel) (by decide +kernel)
theorem m_t683 : Cond.methodLink RX0 60 yX0_sumOfRest ∈ BIG := big_t 683 (by decide +kernel) (by decide +kernel)
theorem m_t684 : Cond.static yX0_sumOfRest ∈ BIG := big_t 684 (by decide +kernel) (by decide +kernel)
theorem m_t685 : Cond.code yX0_sumOfRest cX0_sumOfRest 4 (some .int) ∈ BIG := big_t 685 (by decide +kernel) (by decide +kernel)
theorem m_t686 : Cond.methodLink RX0 45 yX4_worthAmong ∈ BIG := big_t 686 (by decide +kernel) (by decide +kernel)
theorem m_t687 : Cond.methodLink RL 135 yX5_order ∈ BIG := big_t 687 (by decide +kernel) (by decide +kernel)
theorem m_t688 : Cond.instanceMethod yX5_order ∈ BIG := big_t 688 (by decide +kernel) (by decide +kernel)
theorem m_t689 : Cond.selects RX5 yX5_order yX5_order ∈ BIG := big_t 689 (by decide +kernel) (by decide +kernel)
theorem m_t690 : Cond.code yX5_order cX5_order 4 (some .int) ∈ BIG := big_t 690 (by decide +kernel) (by decide +kernel)
theorem m_t691 : Cond.constantLong RX5 275 (-1) ∈ BIG := big_t 691 (by decide +kernel) (by decide +kernel)
theorem m_t692 : Cond.methodLink RX5 277 yX0_worthByRising ∈ BIG := big_t 692 (by decide +kernel) (by decide +kernel)
theorem m_t693 : Cond.instanceMethod yX0_worthByRising ∈ BIG := big_t 693 (by decide +kernel) (by decide +kernel)
theorem m_t694 : Cond.selects RX0 yX0_worthByRising yX0_worthByRising ∈ BIG := big_t 694 (by decide +kernel) (by decide +kernel)
theorem m_t695 : Cond.code yX0_worthByRising cX0_worthByRising 4 (some .int) ∈ BIG := big_t 695 (by decide +kernel) (by decide +kernel)
theorem m_t696 : Cond.methodLink RX5 281 yX4_unreadAt ∈ BIG := big_t 696 (by decide +kernel) (by decide +kernel)
theorem m_t697 : Cond.instanceMethod yX4_unreadAt ∈ BIG := big_t 697 (by decide +kernel) (by decide +kernel)
theorem m_t698 : Cond.selects RX4 yX4_unreadAt yX4_unreadAt ∈ BIG := big_t 698 (by decide +kernel) (by decide +kernel)
theorem m_t699 : Cond.code yX4_unreadAt cX4_unreadAt 4 (some .int) ∈ BIG := big_t 699 (by decide +kernel) (by decide +kernel)
theorem m_t700 : Cond.methodLink RL 139 yX5_keeping ∈ BIG := big_t 700 (by decide +kernel) (by decide +kernel)
theorem m_t701 : Cond.instanceMethod yX5_keeping ∈ BIG := big_t 701 (by decide +kernel) (by decide +kernel)
theorem m_t702 : Cond.selects RX5 yX5_keeping yX5_keeping ∈ BIG := big_t 702 (by decide +kernel) (by decide +kernel)
theorem m_t703 : Cond.code yX5_keeping cX5_keeping 4 (some .int) ∈ BIG := big_t 703 (by decide +kernel) (by decide +kernel)
theorem m_t704 : Cond.constantLong RX5 284 2 ∈ BIG := big_t 704 (by decide +kernel) (by decide +kernel)
theorem m_t705 : Cond.constant RX5 286 1000000 ∈ BIG := big_t 705 (by decide +kernel) (by decide +kernel)
theorem m_t706 : Cond.methodLink RX5 287 yX0_findKeeping ∈ BIG := big_t 706 (by decide +kernel) (by decide +kernel)
theorem m_t707 : Cond.instanceMethod yX0_findKeeping ∈ BIG := big_t 707 (by decide +kernel) (by decide +kernel)
theorem m_t708 : Cond.selects RX0 yX0_findKeeping yX0_findKeeping ∈ BIG := big_t 708 (by decide +kernel) (by decide +kernel)
theorem m_t709 : Cond.code yX0_findKeeping cX0_findKeeping 6 (some .boolean) ∈ BIG := big_t 709 (by decide +kernel) (by decide +kernel)
theorem m_t710 : Cond.methodLink RX0 67 yX0_bestWho ∈ BIG := big_t 710 (by decide +kernel) (by decide +kernel)
theorem m_t711 : Cond.methodLink RL 143 yX5_left ∈ BIG := big_t 711 (by decide +kernel) (by decide +kernel)
theorem m_t712 : Cond.instanceMethod yX5_left ∈ BIG := big_t 712 (by decide +kernel) (by decide +kernel)
theorem m_t713 : Cond.selects RX5 yX5_left yX5_left ∈ BIG := big_t 713 (by decide +kernel) (by decide +kernel)
theorem m_t714 : Cond.code yX5_left cX5_left 6 (some .int) ∈ BIG := big_t 714 (by decide +kernel) (by decide +kernel)
theorem m_t715 : Cond.methodLink RX5 294 yX5_canBeTold ∈ BIG := big_t 715 (by decide +kernel) (by decide +kernel)
theorem m_t716 : Cond.static yX5_canBeTold ∈ BIG := big_t 716 (by decide +kernel) (by decide +kernel)
theorem m_t717 : Cond.code yX5_canBeTold cX5_canBeTold 2 (some .boolean) ∈ BIG := big_t 717 (by decide +kernel) (by decide +kernel)
theorem m_t718 : Cond.methodLink RX5 297 yX4_afterTelling ∈ BIG := big_t 718 (by decide +kernel) (by decide +kernel)
theorem m_t719 : Cond.methodLink RL 147 yX5_longest ∈ BIG := big_t 719 (by decide +kernel) (by decide +kernel)
theorem m_t720 : Cond.instanceMethod yX5_longest ∈ BIG := big_t 720 (by decide +kernel) (by decide +kernel)
theorem m_t721 : Cond.selects RX5 yX5_longest yX5_longest ∈ BIG := big_t 721 (by decide +kernel) (by decide +kernel)
theorem m_t722 : Cond.code yX5_longest cX5_longest 6 (some .int) ∈ BIG := big_t 722 (by decide +kernel) (by decide +kernel)
theorem m_t723 : Cond.methodLink RL 151 yX5_hangs ∈ BIG := big_t 723 (by decide +kernel) (by decide +kernel)
theorem m_t724 : Cond.instanceMethod yX5_hangs ∈ BIG := big_t 724 (by decide +kernel) (by decide +kernel)
theorem m_t725 : Cond.selects RX5 yX5_hangs yX5_hangs ∈ BIG := big_t 725 (by decide +kernel) (by decide +kernel)
theorem m_t726 : Cond.code yX5_hangs cX5_hangs 6 (some .int) ∈ BIG := big_t 726 (by decide +kernel) (by decide +kernel)
theorem m_t727 : Cond.methodLink RX5 300 yX4_worthAmong ∈ BIG := big_t 727 (by decide +kernel) (by decide +kernel)
theorem m_t728 : Cond.methodLink RL 155 yX5_lost ∈ BIG := big_t 728 (by decide +kernel) (by decide +kernel)
theorem m_t729 : Cond.instanceMethod yX5_lost ∈ BIG := big_t 729 (by decide +kernel) (by decide +kernel)
theorem m_t730 : Cond.selects RX5 yX5_lost yX5_lost ∈ BIG := big_t 730 (by decide +kernel) (by decide +kernel)
theorem m_t731 : Cond.code yX5_lost cX5_lost 2 (some .int) ∈ BIG := big_t 731 (by decide +kernel) (by decide +kernel)
theorem m_t732 : Cond.methodLink RX5 303 yX4_booksKnown ∈ BIG := big_t 732 (by decide +kernel) (by decide +kernel)
theorem m_t733 : Cond.instanceMethod yX4_booksKnown ∈ BIG := big_t 733 (by decide +kernel) (by decide +kernel)
theorem m_t734 : Cond.selects RX4 yX4_booksKnown yX4_booksKnown ∈ BIG := big_t 734 (by decide +kernel) (by decide +kernel)
theorem m_t735 : Cond.code yX4_booksKnown cX4_booksKnown 5 (some .int) ∈ BIG := big_t 735 (by decide +kernel) (by decide +kernel)
theorem m_t736 : Cond.methodLink RL 159 yX5_bear ∈ BIG := big_t 736 (by decide +kernel) (by decide +kernel)
theorem m_t737 : Cond.instanceMethod yX5_bear ∈ BIG := big_t 737 (by decide +kernel) (by decide +kernel)
theorem m_t738 : Cond.selects RX5 yX5_bear yX5_bear ∈ BIG := big_t 738 (by decide +kernel) (by decide +kernel)
theorem m_t739 : Cond.code yX5_bear cX5_bear 7 (some .int) ∈ BIG := big_t 739 (by decide +kernel) (by decide +kernel)
theorem m_t740 : Cond.methodLink RL 163 yX5_youngest ∈ BIG := big_t 740 (by decide +kernel) (by decide +kernel)
theorem m_t741 : Cond.instanceMethod yX5_youngest ∈ BIG := big_t 741 (by decide +kernel) (by decide +kernel)
theorem m_t742 : Cond.selects RX5 yX5_youngest yX5_youngest ∈ BIG := big_t 742 (by decide +kernel) (by decide +kernel)
theorem m_t743 : Cond.code yX5_youngest cX5_youngest 2 (some .int) ∈ BIG := big_t 743 (by decide +kernel) (by decide +kernel)
theorem m_t744 : Cond.methodLink RX5 306 yX4_youngestBut ∈ BIG := big_t 744 (by decide +kernel) (by decide +kernel)
theorem m_t745 : Cond.methodLink RL 167 yX5_teach ∈ BIG := big_t 745 (by decide +kernel) (by decide +kernel)
theorem m_t746 : Cond.instanceMethod yX5_teach ∈ BIG := big_t 746 (by decide +kernel) (by decide +kernel)
theorem m_t747 : Cond.selects RX5 yX5_teach yX5_teach ∈ BIG := big_t 747 (by decide +kernel) (by decide +kernel)
theorem m_t748 : Cond.code yX5_teach cX5_teach 7 (some .int) ∈ BIG := big_t 748 (by decide +kernel) (by decide +kernel)
end
section
theorem m_t749 : Cond.methodLink RL 171 yX5_needs ∈ BIG := big_t 749 (by decide +kernel) (by decide +kernel)
theorem m_t750 : Cond.instanceMethod yX5_needs ∈ BIG := big_t 750 (by decide +kernel) (by decide +kernel)
theorem m_t751 : Cond.selects RX5 yX5_needs yX5_needs ∈ BIG := big_t 751 (by decide +kernel) (by decide +kernel)
theorem m_t752 : Cond.code yX5_needs cX5_needs 3 (some .int) ∈ BIG := big_t 752 (by decide +kernel) (by decide +kernel)
theorem m_t753 : Cond.methodLink RX5 309 yX4_allThatNeed ∈ BIG := big_t 753 (by decide +kernel) (by decide +kernel)
theorem m_t754 : Cond.instanceMethod yX4_allThatNeed ∈ BIG := big_t 754 (by decide +kernel) (by decide +kernel)
theorem m_t755 : Cond.selects RX4 yX4_allThatNeed yX4_allThatNeed ∈ BIG := big_t 755 (by decide +kernel) (by decide +kernel)
theorem m_t756 : Cond.code yX4_allThatNeed cX4_allThatNeed 4 (some .int) ∈ BIG := big_t 756 (by decide +kernel) (by decide +kernel)
theorem m_t757 : Cond.methodLink RX4 108 yX4_allNeededBy ∈ BIG := big_t 757 (by decide +kernel) (by decide +kernel)
theorem m_t758 : Cond.instanceMethod yX4_allNeededBy ∈ BIG := big_t 758 (by decide +kernel) (by decide +kernel)
theorem m_t759 : Cond.selects RX4 yX4_allNeededBy yX4_allNeededBy ∈ BIG := big_t 759 (by decide +kernel) (by decide +kernel)
theorem m_t760 : Cond.code yX4_allNeededBy cX4_allNeededBy 4 (some .int) ∈ BIG := big_t 760 (by decide +kernel) (by decide +kernel)
theorem m_t761 : Cond.methodLink RX5 312 yX4_allNeededBy ∈ BIG := big_t 761 (by decide +kernel) (by decide +kernel)
theorem m_t762 : Cond.methodLink RL 176 yX5_next ∈ BIG := big_t 762 (by decide +kernel) (by decide +kernel)
theorem m_t763 : Cond.instanceMethod yX5_next ∈ BIG := big_t 763 (by decide +kernel) (by decide +kernel)
theorem m_t764 : Cond.selects RX5 yX5_next yX5_next ∈ BIG := big_t 764 (by decide +kernel) (by decide +kernel)
theorem m_t765 : Cond.code yX5_next cX5_next 5 (some .int) ∈ BIG := big_t 765 (by decide +kernel) (by decide +kernel)
theorem m_t766 : Cond.methodLink RX5 315 yX4_gainByReading ∈ BIG := big_t 766 (by decide +kernel) (by decide +kernel)
theorem m_t767 : Cond.instanceMethod yX4_gainByReading ∈ BIG := big_t 767 (by decide +kernel) (by decide +kernel)
theorem m_t768 : Cond.selects RX4 yX4_gainByReading yX4_gainByReading ∈ BIG := big_t 768 (by decide +kernel) (by decide +kernel)
theorem m_t769 : Cond.code yX4_gainByReading cX4_gainByReading 3 (some .int) ∈ BIG := big_t 769 (by decide +kernel) (by decide +kernel)
theorem m_t770 : Cond.methodLink RX4 105 yX4_bestReader ∈ BIG := big_t 770 (by decide +kernel) (by decide +kernel)
theorem m_t771 : Cond.methodLink RL 180 yX5_two ∈ BIG := big_t 771 (by decide +kernel) (by decide +kernel)
theorem m_t772 : Cond.instanceMethod yX5_two ∈ BIG := big_t 772 (by decide +kernel) (by decide +kernel)
theorem m_t773 : Cond.selects RX5 yX5_two yX5_two ∈ BIG := big_t 773 (by decide +kernel) (by decide +kernel)
theorem m_t774 : Cond.code yX5_two cX5_two 3 (some .int) ∈ BIG := big_t 774 (by decide +kernel) (by decide +kernel)
theorem m_t775 : Cond.methodLink RL 184 yX5_gains ∈ BIG := big_t 775 (by decide +kernel) (by decide +kernel)
theorem m_t776 : Cond.instanceMethod yX5_gains ∈ BIG := big_t 776 (by decide +kernel) (by decide +kernel)
theorem m_t777 : Cond.selects RX5 yX5_gains yX5_gains ∈ BIG := big_t 777 (by decide +kernel) (by decide +kernel)
theorem m_t778 : Cond.code yX5_gains cX5_gains 5 (some .int) ∈ BIG := big_t 778 (by decide +kernel) (by decide +kernel)
theorem m_t779 : Cond.methodLink RX5 318 yX0_sumOfRest ∈ BIG := big_t 779 (by decide +kernel) (by decide +kernel)
theorem m_t780 : Cond.methodLink RL 188 yX5_judge ∈ BIG := big_t 780 (by decide +kernel) (by decide +kernel)
theorem m_t781 : Cond.instanceMethod yX5_judge ∈ BIG := big_t 781 (by decide +kernel) (by decide +kernel)
theorem m_t782 : Cond.selects RX5 yX5_judge yX5_judge ∈ BIG := big_t 782 (by decide +kernel) (by decide +kernel)
theorem m_t783 : Cond.code yX5_judge cX5_judge 4 (some .int) ∈ BIG := big_t 783 (by decide +kernel) (by decide +kernel)
theorem m_t784 : Cond.methodLink RX5 321 yX5_toldFit ∈ BIG := big_t 784 (by decide +kernel) (by decide +kernel)
theorem m_t786 : Cond.instanceMethod yX5_toldFit ∈ BIG := big_t 786 (by decide +kernel) (by decide +kernel)
theorem m_t787 : Cond.code yX5_toldFit cX5_toldFit 4 (some .int) ∈ BIG := big_t 787 (by decide +kernel) (by decide +kernel)
theorem m_t788 : Cond.constantLong RX5 327 20 ∈ BIG := big_t 788 (by decide +kernel) (by decide +kernel)
theorem m_t789 : Cond.methodLink RX5 324 yX5_firstWrong ∈ BIG := big_t 789 (by decide +kernel) (by decide +kernel)
theorem m_t791 : Cond.instanceMethod yX5_firstWrong ∈ BIG := big_t 791 (by decide +kernel) (by decide +kernel)
theorem m_t792 : Cond.code yX5_firstWrong cX5_firstWrong 9 (some .int) ∈ BIG := big_t 792 (by decide +kernel) (by decide +kernel)
theorem m_t793 : Cond.constantLong RX5 367 799 ∈ BIG := big_t 793 (by decide +kernel) (by decide +kernel)
theorem m_t794 : Cond.methodLink RL 192 yX5_told ∈ BIG := big_t 794 (by decide +kernel) (by decide +kernel)
theorem m_t795 : Cond.instanceMethod yX5_told ∈ BIG := big_t 795 (by decide +kernel) (by decide +kernel)
theorem m_t796 : Cond.selects RX5 yX5_told yX5_told ∈ BIG := big_t 796 (by decide +kernel) (by decide +kernel)
theorem m_t797 : Cond.code yX5_told cX5_told 4 (some .int) ∈ BIG := big_t 797 (by decide +kernel) (by decide +kernel)
theorem m_t798 : Cond.methodLink RL 196 yX5_years ∈ BIG := big_t 798 (by decide +kernel) (by decide +kernel)
theorem m_t799 : Cond.instanceMethod yX5_years ∈ BIG := big_t 799 (by decide +kernel) (by decide +kernel)
theorem m_t800 : Cond.selects RX5 yX5_years yX5_years ∈ BIG := big_t 800 (by decide +kernel) (by decide +kernel)
theorem m_t801 : Cond.code yX5_years cX5_years 6 (some .int) ∈ BIG := big_t 801 (by decide +kernel) (by decide +kernel)
theorem m_t802 : Cond.methodLink RX5 329 yX4_drawDeaths ∈ BIG := big_t 802 (by decide +kernel) (by decide +kernel)
theorem m_t803 : Cond.instanceMethod yX4_drawDeaths ∈ BIG := big_t 803 (by decide +kernel) (by decide +kernel)
theorem m_t804 : Cond.selects RX4 yX4_drawDeaths yX4_drawDeaths ∈ BIG := big_t 804 (by decide +kernel) (by decide +kernel)
theorem m_t805 : Cond.code yX4_drawDeaths cX4_drawDeaths 2 none ∈ BIG := big_t 805 (by decide +kernel) (by decide +kernel)
theorem m_t806 : Cond.methodLink RX4 120 yX4_drawBelow20 ∈ BIG := big_t 806 (by decide +kernel) (by decide +kernel)
theorem m_t808 : Cond.instanceMethod yX4_drawBelow20 ∈ BIG := big_t 808 (by decide +kernel) (by decide +kernel)
theorem m_t809 : Cond.code yX4_drawBelow20 cX4_drawBelow20 1 (some .int) ∈ BIG := big_t 809 (by decide +kernel) (by decide +kernel)
theorem m_t810 : Cond.constant RX4 123 1103515245 ∈ BIG := big_t 810 (by decide +kernel) (by decide +kernel)
theorem m_t811 : Cond.methodLink RX5 332 yX4_endYear ∈ BIG := big_t 811 (by decide +kernel) (by decide +kernel)
theorem m_t812 : Cond.methodLink RL 200 yX5_ends ∈ BIG := big_t 812 (by decide +kernel) (by decide +kernel)
theorem m_t813 : Cond.instanceMethod yX5_ends ∈ BIG := big_t 813 (by decide +kernel) (by decide +kernel)
theorem m_t814 : Cond.selects RX5 yX5_ends yX5_ends ∈ BIG := big_t 814 (by decide +kernel) (by decide +kernel)
theorem m_t815 : Cond.code yX5_ends cX5_ends 1 (some .int) ∈ BIG := big_t 815 (by decide +kernel) (by decide +kernel)
theorem m_t816 : Cond.methodLink RL 204 yX5_seed ∈ BIG := big_t 816 (by decide +kernel) (by decide +kernel)
theorem m_t817 : Cond.instanceMethod yX5_seed ∈ BIG := big_t 817 (by decide +kernel) (by decide +kernel)
theorem m_t818 : Cond.selects RX5 yX5_seed yX5_seed ∈ BIG := big_t 818 (by decide +kernel) (by decide +kernel)
theorem m_t819 : Cond.code yX5_seed cX5_seed 3 (some .int) ∈ BIG := big_t 819 (by decide +kernel) (by decide +kernel)
theorem m_t820 : Cond.methodLink RL 208 yX5_image ∈ BIG := big_t 820 (by decide +kernel) (by decide +kernel)
theorem m_t821 : Cond.instanceMethod yX5_image ∈ BIG := big_t 821 (by decide +kernel) (by decide +kernel)
theorem m_t822 : Cond.selects RX5 yX5_image yX5_image ∈ BIG := big_t 822 (by decide +kernel) (by decide +kernel)
theorem m_t823 : Cond.code yX5_image cX5_image 1 (some .int) ∈ BIG := big_t 823 (by decide +kernel) (by decide +kernel)
theorem m_t824 : Cond.methodLink RL 212 yX5_back ∈ BIG := big_t 824 (by decide +kernel) (by decide +kernel)
theorem m_t825 : Cond.instanceMethod yX5_back ∈ BIG := big_t 825 (by decide +kernel) (by decide +kernel)
theorem m_t826 : Cond.selects RX5 yX5_back yX5_back ∈ BIG := big_t 826 (by decide +kernel) (by decide +kernel)
theorem m_t827 : Cond.code yX5_back cX5_back 1 (some .int) ∈ BIG := big_t 827 (by decide +kernel) (by decide +kernel)
theorem m_t828 : Cond.methodLink RL 216 yX5_status ∈ BIG := big_t 828 (by decide +kernel) (by decide +kernel)
theorem m_t829 : Cond.instanceMethod yX5_status ∈ BIG := big_t 829 (by decide +kernel) (by decide +kernel)
theorem m_t830 : Cond.selects RX5 yX5_status yX5_status ∈ BIG := big_t 830 (by decide +kernel) (by decide +kernel)
theorem m_t831 : Cond.code yX5_status cX5_status 2 (some .int) ∈ BIG := big_t 831 (by decide +kernel) (by decide +kernel)
theorem m_t832 : Cond.constantLong RX5 348 12 ∈ BIG := big_t 832 (by decide +kernel) (by decide +kernel)
theorem m_t833 : Cond.constantLong RX5 350 16 ∈ BIG := big_t 833 (by decide +kernel) (by decide +kernel)
theorem m_t834 : Cond.methodLink RX5 352 yX2_countHolding ∈ BIG := big_t 834 (by decide +kernel) (by decide +kernel)
theorem m_t835 : Cond.instanceMethod yX2_countHolding ∈ BIG := big_t 835 (by decide +kernel) (by decide +kernel)
theorem m_t836 : Cond.selects RX2 yX2_countHolding yX2_countHolding ∈ BIG := big_t 836 (by decide +kernel) (by decide +kernel)
theorem m_t837 : Cond.code yX2_countHolding cX2_countHolding 3 (some .int) ∈ BIG := big_t 837 (by decide +kernel) (by decide +kernel)
theorem m_t838 : Cond.classLink RL 10 RX6 ∈ BIG := big_t 838 (by decide +kernel) (by decide +kernel)
theorem m_t839 : Cond.instantiable RX6 35 ∈ BIG := big_t 839 (by decide +kernel) (by decide +kernel)
theorem m_t840 : Cond.methodLink RL 12 yX6_init ∈ BIG := big_t 840 (by decide +kernel) (by decide +kernel)
theorem m_t841 : Cond.instanceMethod yX6_init ∈ BIG := big_t 841 (by decide +kernel) (by decide +kernel)
theorem m_t842 : Cond.code yX6_init cX6_init 1 none ∈ BIG := big_t 842 (by decide +kernel) (by decide +kernel)
theorem m_t843 : Cond.methodLink RX6 1 objectInit ∈ BIG := big_t 843 (by decide +kernel) (by decide +kernel)
theorem m_t844 : Cond.classLink RX6 19 "[[J" ∈ BIG := big_t 844 (by decide +kernel) (by decide +kernel)
theorem m_t846 : Cond.classLink RX6 40 "[[I" ∈ BIG := big_t 846 (by decide +kernel) (by decide +kernel)
theorem m_t848 : Cond.classLink RX6 8 RX6 ∈ BIG := big_t 848 (by decide +kernel) (by decide +kernel)
theorem m_t850 : Cond.fieldLink RX6 7 "EachBookOnceModel" "shelf" "[I" ∈ BIG := big_t 850 (by decide +kernel) (by decide +kernel)
theorem m_t851 : Cond.fieldLink RX6 13 "EachBookOnceModel" "rowSort" "[I" ∈ BIG := big_t 851 (by decide +kernel) (by decide +kernel)
theorem m_t852 : Cond.fieldLink RX6 16 "EachBookOnceModel" "rowSize" "[I" ∈ BIG := big_t 852 (by decide +kernel) (by decide +kernel)
theorem m_t853 : Cond.fieldLink RX6 21 "EachBookOnceModel" "rows" "[[J" ∈ BIG := big_t 853 (by decide +kernel) (by decide +kernel)
theorem m_t854 : Cond.fieldLink RX6 24 "EachBookOnceModel" "moved" "[J" ∈ BIG := big_t 854 (by decide +kernel) (by decide +kernel)
theorem m_t855 : Cond.fieldLink RX6 28 "EachBookOnceModel" "ruleKind" "[I" ∈ BIG := big_t 855 (by decide +kernel) (by decide +kernel)
theorem m_t856 : Cond.fieldLink RX6 31 "EachBookOnceModel" "ruleBy" "[I" ∈ BIG := big_t 856 (by decide +kernel) (by decide +kernel)
theorem m_t857 : Cond.fieldLink RX6 34 "EachBookOnceModel" "tape" "[I" ∈ BIG := big_t 857 (by decide +kernel) (by decide +kernel)
theorem m_t858 : Cond.fieldLink RX6 141 "EachBookOnceModel" "tapeSize" "I" ∈ BIG := big_t 858 (by decide +kernel) (by decide +kernel)
theorem m_t859 : Cond.fieldLink RX6 37 "EachBookOnceModel" "refused" "[I" ∈ BIG := big_t 859 (by decide +kernel) (by decide +kernel)
theorem m_t860 : Cond.fieldLink RX6 71 "EachBookOnceModel" "books" "I" ∈ BIG := big_t 860 (by decide +kernel) (by decide +kernel)
theorem m_t861 : Cond.fieldLink RX6 42 "EachBookOnceModel" "book" "[[I" ∈ BIG := big_t 861 (by decide +kernel) (by decide +kernel)
theorem m_t862 : Cond.fieldLink RX6 78 "EachBookOnceModel" "people" "I" ∈ BIG := big_t 862 (by decide +kernel) (by decide +kernel)
theorem m_t863 : Cond.fieldLink RX6 45 "EachBookOnceModel" "one" "[[I" ∈ BIG := big_t 863 (by decide +kernel) (by decide +kernel)
theorem m_t864 : Cond.fieldLink RX6 48 "EachBookOnceModel" "known" "[[I" ∈ BIG := big_t 864 (by decide +kernel) (by decide +kernel)
theorem m_t865 : Cond.fieldLink RX6 285 "EachBookOnceModel" "ended" "I" ∈ BIG := big_t 865 (by decide +kernel) (by decide +kernel)
theorem m_t866 : Cond.fieldLink RX6 355 "EachBookOnceModel" "taken" "I" ∈ BIG := big_t 866 (by decide +kernel) (by decide +kernel)
theorem m_t867 : Cond.fieldLink RX6 51 "EachBookOnceModel" "seed" "I" ∈ BIG := big_t 867 (by decide +kernel) (by decide +kernel)
theorem m_t868 : Cond.fieldLink RX6 362 "EachBookOnceModel" "kept" "LEachBookOnceModel;" ∈ BIG := big_t 868 (by decide +kernel) (by decide +kernel)
theorem m_t869 : Cond.fieldLink RX6 118 "EachBookOnceModel" "tried" "LEachBookOnceModel;" ∈ BIG := big_t 869 (by decide +kernel) (by decide +kernel)
theorem m_t870 : Cond.fieldLink RX6 144 "EachBookOnceModel" "at" "I" ∈ BIG := big_t 870 (by decide +kernel) (by decide +kernel)
theorem m_t871 : Cond.fieldLink RX6 154 "EachBookOnceModel" "token" "I" ∈ BIG := big_t 871 (by decide +kernel) (by decide +kernel)
theorem m_t872 : Cond.fieldLink RX6 147 "EachBookOnceModel" "from" "I" ∈ BIG := big_t 872 (by decide +kernel) (by decide +kernel)
theorem m_t873 : Cond.fieldLink RX6 150 "EachBookOnceModel" "figures" "J" ∈ BIG := big_t 873 (by decide +kernel) (by decide +kernel)
theorem m_t874 : Cond.fieldLink RX6 167 "EachBookOnceModel" "fault" "I" ∈ BIG := big_t 874 (by decide +kernel) (by decide +kernel)
theorem m_t875 : Cond.fieldLink RX6 55 "EachBookOnceModel" "three" "[I" ∈ BIG := big_t 875 (by decide +kernel) (by decide +kernel)
theorem m_t876 : Cond.fieldLink RX6 216 "EachBookOnceModel" "statements" "I" ∈ BIG := big_t 876 (by decide +kernel) (by decide +kernel)
theorem m_t877 : Cond.fieldLink RX6 292 "EachBookOnceModel" "lastValue" "I" ∈ BIG := big_t 877 (by decide +kernel) (by decide +kernel)
theorem m_t878 : Cond.fieldLink RX6 312 "EachBookOnceModel" "whoSum" "I" ∈ BIG := big_t 878 (by decide +kernel) (by decide +kernel)
theorem m_t879 : Cond.fieldLink RX6 320 "EachBookOnceModel" "later" "LEachBookOnceModel;" ∈ BIG := big_t 879 (by decide +kernel) (by decide +kernel)
theorem m_t880 : Cond.fieldLink RX6 58 "EachBookOnceModel" "unread" "[I" ∈ BIG := big_t 880 (by decide +kernel) (by decide +kernel)
theorem m_t881 : Cond.fieldLink RX6 61 "EachBookOnceModel" "tryRow" "[I" ∈ BIG := big_t 881 (by decide +kernel) (by decide +kernel)
theorem m_t882 : Cond.fieldLink RX6 64 "EachBookOnceModel" "bestRow" "[I" ∈ BIG := big_t 882 (by decide +kernel) (by decide +kernel)
theorem m_t883 : Cond.fieldLink RX6 67 "EachBookOnceModel" "steps" "[LEachBookOnceModel;" ∈ BIG := big_t 883 (by decide +kernel) (by decide +kernel)
theorem m_t884 : Cond.fieldLink RX6 323 "EachBookOnceModel" "orderMost" "I" ∈ BIG := big_t 884 (by decide +kernel) (by decide +kernel)
theorem m_t956 : Cond.methodLink RL 17 yX6_row ∈ BIG := big_t 956 (by decide +kernel) (by decide +kernel)
theorem m_t957 : Cond.instanceMethod yX6_row ∈ BIG := big_t 957 (by decide +kernel) (by decide +kernel)
theorem m_t958 : Cond.selects RX6 yX6_row yX6_row ∈ BIG := big_t 958 (by decide +kernel) (by decide +kernel)
theorem m_t959 : Cond.code yX6_row cX6_row 5 (some .int) ∈ BIG := big_t 959 (by decide +kernel) (by decide +kernel)
theorem m_t960 : Cond.constantLong RX6 85 7 ∈ BIG := big_t 960 (by decide +kernel) (by decide +kernel)
theorem m_t961 : Cond.methodLink RX6 74 yX6_in ∈ BIG := big_t 961 (by decide +kernel) (by decide +kernel)
theorem m_t962 : Cond.static yX6_in ∈ BIG := big_t 962 (by decide +kernel) (by decide +kernel)
theorem m_t963 : Cond.code yX6_in cX6_in 6 (some .boolean) ∈ BIG := big_t 963 (by decide +kernel) (by decide +kernel)
theorem m_t964 : Cond.constantLong RX6 87 4 ∈ BIG := big_t 964 (by decide +kernel) (by decide +kernel)
theorem m_t965 : Cond.constantLong RX6 89 40 ∈ BIG := big_t 965 (by decide +kernel) (by decide +kernel)
theorem m_t966 : Cond.methodLink RX6 91 yX6_refuse ∈ BIG := big_t 966 (by decide +kernel) (by decide +kernel)
theorem m_t968 : Cond.instanceMethod yX6_refuse ∈ BIG := big_t 968 (by decide +kernel) (by decide +kernel)
theorem m_t969 : Cond.code yX6_refuse cX6_refuse 2 (some .int) ∈ BIG := big_t 969 (by decide +kernel) (by decide +kernel)
theorem m_t970 : Cond.methodLink RL 24 yX6_set ∈ BIG := big_t 970 (by decide +kernel) (by decide +kernel)
theorem m_t971 : Cond.instanceMethod yX6_set ∈ BIG := big_t 971 (by decide +kernel) (by decide +kernel)
theorem m_t972 : Cond.selects RX6 yX6_set yX6_set ∈ BIG := big_t 972 (by decide +kernel) (by decide +kernel)
theorem m_t973 : Cond.code yX6_set cX6_set 6 (some .int) ∈ BIG := big_t 973 (by decide +kernel) (by decide +kernel)
theorem m_t974 : Cond.methodLink RX6 95 yX6_noRow ∈ BIG := big_t 974 (by decide +kernel) (by decide +kernel)
theorem m_t976 : Cond.instanceMethod yX6_noRow ∈ BIG := big_t 976 (by decide +kernel) (by decide +kernel)
theorem m_t977 : Cond.code yX6_noRow cX6_noRow 2 (some .int) ∈ BIG := big_t 977 (by decide +kernel) (by decide +kernel)
theorem m_t978 : Cond.methodLink RX6 98 yX6_fit ∈ BIG := big_t 978 (by decide +kernel) (by decide +kernel)
theorem m_t979 : Cond.static yX6_fit ∈ BIG := big_t 979 (by decide +kernel) (by decide +kernel)
theorem m_t980 : Cond.code yX6_fit cX6_fit 3 (some .long) ∈ BIG := big_t 980 (by decide +kernel) (by decide +kernel)
theorem m_t981 : Cond.methodLink RL 29 yX6_copy ∈ BIG := big_t 981 (by decide +kernel) (by decide +kernel)
theorem m_t982 : Cond.instanceMethod yX6_copy ∈ BIG := big_t 982 (by decide +kernel) (by decide +kernel)
theorem m_t983 : Cond.selects RX6 yX6_copy yX6_copy ∈ BIG := big_t 983 (by decide +kernel) (by decide +kernel)
theorem m_t984 : Cond.code yX6_copy cX6_copy 7 (some .int) ∈ BIG := big_t 984 (by decide +kernel) (by decide +kernel)
theorem m_t985 : Cond.methodLink RL 34 yX6_element ∈ BIG := big_t 985 (by decide +kernel) (by decide +kernel)
theorem m_t986 : Cond.instanceMethod yX6_element ∈ BIG := big_t 986 (by decide +kernel) (by decide +kernel)
theorem m_t987 : Cond.selects RX6 yX6_element yX6_element ∈ BIG := big_t 987 (by decide +kernel) (by decide +kernel)
theorem m_t988 : Cond.code yX6_element cX6_element 3 (some .long) ∈ BIG := big_t 988 (by decide +kernel) (by decide +kernel)
theorem m_t989 : Cond.methodLink RL 39 yX6_holds ∈ BIG := big_t 989 (by decide +kernel) (by decide +kernel)
theorem m_t990 : Cond.instanceMethod yX6_holds ∈ BIG := big_t 990 (by decide +kernel) (by decide +kernel)
theorem m_t991 : Cond.selects RX6 yX6_holds yX6_holds ∈ BIG := big_t 991 (by decide +kernel) (by decide +kernel)
theorem m_t992 : Cond.code yX6_holds cX6_holds 2 (some .int) ∈ BIG := big_t 992 (by decide +kernel) (by decide +kernel)
theorem m_t993 : Cond.methodLink RL 43 yX6_rule ∈ BIG := big_t 993 (by decide +kernel) (by decide +kernel)
theorem m_t994 : Cond.instanceMethod yX6_rule ∈ BIG := big_t 994 (by decide +kernel) (by decide +kernel)
theorem m_t995 : Cond.selects RX6 yX6_rule yX6_rule ∈ BIG := big_t 995 (by decide +kernel) (by decide +kernel)
theorem m_t996 : Cond.code yX6_rule cX6_rule 4 (some .int) ∈ BIG := big_t 996 (by decide +kernel) (by decide +kernel)
theorem m_t997 : Cond.constantLong RX6 102 6 ∈ BIG := big_t 997 (by decide +kernel) (by decide +kernel)
theorem m_t998 : Cond.constantLong RX6 104 99 ∈ BIG := big_t 998 (by decide +kernel) (by decide +kernel)
theorem m_t999 : Cond.methodLink RL 48 yX6_says ∈ BIG := big_t 999 (by decide +kernel) (by decide +kernel)
theorem m_t1000 : Cond.instanceMethod yX6_says ∈ BIG := big_t 1000 (by decide +kernel) (by decide +kernel)
theorem m_t1001 : Cond.selects RX6 yX6_says yX6_says ∈ BIG := big_t 1001 (by decide +kernel) (by decide +kernel)
theorem m_t1002 : Cond.code yX6_says cX6_says 4 (some .int) ∈ BIG := big_t 1002 (by decide +kernel) (by decide +kernel)
theorem m_t1003 : Cond.methodLink RX6 106 yX6_isUnder ∈ BIG := big_t 1003 (by decide +kernel) (by decide +kernel)
theorem m_t1004 : Cond.static yX6_isUnder ∈ BIG := big_t 1004 (by decide +kernel) (by decide +kernel)
theorem m_t1005 : Cond.code yX6_isUnder cX6_isUnder 2 (some .boolean) ∈ BIG := big_t 1005 (by decide +kernel) (by decide +kernel)
theorem m_t1006 : Cond.methodLink RX6 110 yX6_fresh ∈ BIG := big_t 1006 (by decide +kernel) (by decide +kernel)
theorem m_t1008 : Cond.instanceMethod yX6_fresh ∈ BIG := big_t 1008 (by decide +kernel) (by decide +kernel)
theorem m_t1009 : Cond.code yX6_fresh cX6_fresh 1 (some (.object "EachBookOnceModel")) ∈ BIG := big_t 1009 (by decide +kernel) (by decide +kernel)
theorem m_t1010 : Cond.methodLink RX6 291 yX6_init ∈ BIG := big_t 1010 (by decide +kernel) (by decide +kernel)
theorem m_t1011 : Cond.methodLink RX6 225 yX6_takeFrom ∈ BIG := big_t 1011 (by decide +kernel) (by decide +kernel)
theorem m_t1013 : Cond.instanceMethod yX6_takeFrom ∈ BIG := big_t 1013 (by decide +kernel) (by decide +kernel)
theorem m_t1014 : Cond.code yX6_takeFrom cX6_takeFrom 2 none ∈ BIG := big_t 1014 (by decide +kernel) (by decide +kernel)
theorem m_t1015 : Cond.methodLink RX6 358 yX6_overAll ∈ BIG := big_t 1015 (by decide +kernel) (by decide +kernel)
theorem m_t1016 : Cond.static yX6_overAll ∈ BIG := big_t 1016 (by decide +kernel) (by decide +kernel)
theorem m_t1017 : Cond.code yX6_overAll cX6_overAll 4 none ∈ BIG := big_t 1017 (by decide +kernel) (by decide +kernel)
theorem m_t1018 : Cond.methodLink RX6 114 yX6_does ∈ BIG := big_t 1018 (by decide +kernel) (by decide +kernel)
theorem m_t1020 : Cond.instanceMethod yX6_does ∈ BIG := big_t 1020 (by decide +kernel) (by decide +kernel)
theorem m_t1021 : Cond.code yX6_does cX6_does 3 (some .int) ∈ BIG := big_t 1021 (by decide +kernel) (by decide +kernel)
theorem m_t1022 : Cond.methodLink RX6 278 yX6_readMost ∈ BIG := big_t 1022 (by decide +kernel) (by decide +kernel)
theorem m_t1024 : Cond.instanceMethod yX6_readMost ∈ BIG := big_t 1024 (by decide +kernel) (by decide +kernel)
theorem m_t1025 : Cond.code yX6_readMost cX6_readMost 6 (some .int) ∈ BIG := big_t 1025 (by decide +kernel) (by decide +kernel)
theorem m_t1026 : Cond.methodLink RX6 275 yX6_thereMany ∈ BIG := big_t 1026 (by decide +kernel) (by decide +kernel)
theorem m_t1028 : Cond.instanceMethod yX6_thereMany ∈ BIG := big_t 1028 (by decide +kernel) (by decide +kernel)
theorem m_t1029 : Cond.code yX6_thereMany cX6_thereMany 3 (some .int) ∈ BIG := big_t 1029 (by decide +kernel) (by decide +kernel)
theorem m_t1030 : Cond.methodLink RX6 81 yX6_isThere ∈ BIG := big_t 1030 (by decide +kernel) (by decide +kernel)
theorem m_t1032 : Cond.instanceMethod yX6_isThere ∈ BIG := big_t 1032 (by decide +kernel) (by decide +kernel)
theorem m_t1033 : Cond.code yX6_isThere cX6_isThere 2 (some .boolean) ∈ BIG := big_t 1033 (by decide +kernel) (by decide +kernel)
theorem m_t1034 : Cond.methodLink RX6 248 yX6_isWhite ∈ BIG := big_t 1034 (by decide +kernel) (by decide +kernel)
theorem m_t1036 : Cond.instanceMethod yX6_isWhite ∈ BIG := big_t 1036 (by decide +kernel) (by decide +kernel)
theorem m_t1037 : Cond.code yX6_isWhite cX6_isWhite 2 (some .boolean) ∈ BIG := big_t 1037 (by decide +kernel) (by decide +kernel)
theorem m_t1038 : Cond.methodLink RX6 272 yX6_readerOf ∈ BIG := big_t 1038 (by decide +kernel) (by decide +kernel)
theorem m_t1040 : Cond.instanceMethod yX6_readerOf ∈ BIG := big_t 1040 (by decide +kernel) (by decide +kernel)
theorem m_t1041 : Cond.code yX6_readerOf cX6_readerOf 6 (some .int) ∈ BIG := big_t 1041 (by decide +kernel) (by decide +kernel)
theorem m_t1042 : Cond.methodLink RX6 254 yX6_wouldKnow ∈ BIG := big_t 1042 (by decide +kernel) (by decide +kernel)
theorem m_t1044 : Cond.instanceMethod yX6_wouldKnow ∈ BIG := big_t 1044 (by decide +kernel) (by decide +kernel)
theorem m_t1045 : Cond.code yX6_wouldKnow cX6_wouldKnow 4 (some .int) ∈ BIG := big_t 1045 (by decide +kernel) (by decide +kernel)
theorem m_t1046 : Cond.methodLink RX6 244 yX6_byGround ∈ BIG := big_t 1046 (by decide +kernel) (by decide +kernel)
theorem m_t1048 : Cond.instanceMethod yX6_byGround ∈ BIG := big_t 1048 (by decide +kernel) (by decide +kernel)
theorem m_t1049 : Cond.code yX6_byGround cX6_byGround 4 (some .int) ∈ BIG := big_t 1049 (by decide +kernel) (by decide +kernel)
theorem m_t1050 : Cond.methodLink RX6 241 yX6_groundOf ∈ BIG := big_t 1050 (by decide +kernel) (by decide +kernel)
theorem m_t1052 : Cond.instanceMethod yX6_groundOf ∈ BIG := big_t 1052 (by decide +kernel) (by decide +kernel)
theorem m_t1053 : Cond.code yX6_groundOf cX6_groundOf 6 (some .int) ∈ BIG := big_t 1053 (by decide +kernel) (by decide +kernel)
theorem m_t1054 : Cond.methodLink RX6 260 yX6_readsTo ∈ BIG := big_t 1054 (by decide +kernel) (by decide +kernel)
theorem m_t1056 : Cond.instanceMethod yX6_readsTo ∈ BIG := big_t 1056 (by decide +kernel) (by decide +kernel)
theorem m_t1057 : Cond.code yX6_readsTo cX6_readsTo 7 (some .int) ∈ BIG := big_t 1057 (by decide +kernel) (by decide +kernel)
theorem m_t1058 : Cond.methodLink RX6 257 yX6_reads ∈ BIG := big_t 1058 (by decide +kernel) (by decide +kernel)
theorem m_t1060 : Cond.instanceMethod yX6_reads ∈ BIG := big_t 1060 (by decide +kernel) (by decide +kernel)
theorem m_t1061 : Cond.code yX6_reads cX6_reads 3 none ∈ BIG := big_t 1061 (by decide +kernel) (by decide +kernel)
theorem m_t1062 : Cond.methodLink RX6 282 yX6_chain ∈ BIG := big_t 1062 (by decide +kernel) (by decide +kernel)
theorem m_t1064 : Cond.instanceMethod yX6_chain ∈ BIG := big_t 1064 (by decide +kernel) (by decide +kernel)
theorem m_t1065 : Cond.code yX6_chain cX6_chain 4 none ∈ BIG := big_t 1065 (by decide +kernel) (by decide +kernel)
theorem m_t1066 : Cond.methodLink RX6 269 yX6_youngestBut ∈ BIG := big_t 1066 (by decide +kernel) (by decide +kernel)
theorem m_t1068 : Cond.instanceMethod yX6_youngestBut ∈ BIG := big_t 1068 (by decide +kernel) (by decide +kernel)
theorem m_t1069 : Cond.code yX6_youngestBut cX6_youngestBut 4 (some .int) ∈ BIG := big_t 1069 (by decide +kernel) (by decide +kernel)
theorem m_t1070 : Cond.methodLink RX6 263 yX6_moreBy ∈ BIG := big_t 1070 (by decide +kernel) (by decide +kernel)
theorem m_t1072 : Cond.instanceMethod yX6_moreBy ∈ BIG := big_t 1072 (by decide +kernel) (by decide +kernel)
theorem m_t1073 : Cond.code yX6_moreBy cX6_moreBy 5 (some .int) ∈ BIG := big_t 1073 (by decide +kernel) (by decide +kernel)
theorem m_t1074 : Cond.methodLink RX6 122 yX6_valueNow ∈ BIG := big_t 1074 (by decide +kernel) (by decide +kernel)
theorem m_t1076 : Cond.instanceMethod yX6_valueNow ∈ BIG := big_t 1076 (by decide +kernel) (by decide +kernel)
theorem m_t1077 : Cond.code yX6_valueNow cX6_valueNow 1 (some .int) ∈ BIG := big_t 1077 (by decide +kernel) (by decide +kernel)
theorem m_t1078 : Cond.methodLink RX6 266 yX6_valueOf ∈ BIG := big_t 1078 (by decide +kernel) (by decide +kernel)
theorem m_t1080 : Cond.instanceMethod yX6_valueOf ∈ BIG := big_t 1080 (by decide +kernel) (by decide +kernel)
theorem m_t1081 : Cond.code yX6_valueOf cX6_valueOf 4 (some .int) ∈ BIG := big_t 1081 (by decide +kernel) (by decide +kernel)
theorem m_t1082 : Cond.methodLink RX6 233 yX6_greatest ∈ BIG := big_t 1082 (by decide +kernel) (by decide +kernel)
theorem m_t1084 : Cond.instanceMethod yX6_greatest ∈ BIG := big_t 1084 (by decide +kernel) (by decide +kernel)
theorem m_t1085 : Cond.code yX6_greatest cX6_greatest 5 (some .int) ∈ BIG := big_t 1085 (by decide +kernel) (by decide +kernel)
theorem m_t1086 : Cond.methodLink RL 52 yX6_book ∈ BIG := big_t 1086 (by decide +kernel) (by decide +kernel)
theorem m_t1087 : Cond.instanceMethod yX6_book ∈ BIG := big_t 1087 (by decide +kernel) (by decide +kernel)
theorem m_t1088 : Cond.selects RX6 yX6_book yX6_book ∈ BIG := big_t 1088 (by decide +kernel) (by decide +kernel)
theorem m_t1089 : Cond.code yX6_book cX6_book 3 (some .int) ∈ BIG := big_t 1089 (by decide +kernel) (by decide +kernel)
theorem m_t1090 : Cond.methodLink RX6 126 yX6_newBook ∈ BIG := big_t 1090 (by decide +kernel) (by decide +kernel)
theorem m_t1092 : Cond.instanceMethod yX6_newBook ∈ BIG := big_t 1092 (by decide +kernel) (by decide +kernel)
theorem m_t1093 : Cond.code yX6_newBook cX6_newBook 3 none ∈ BIG := big_t 1093 (by decide +kernel) (by decide +kernel)
theorem m_t1094 : Cond.methodLink RL 57 yX6_one ∈ BIG := big_t 1094 (by decide +kernel) (by decide +kernel)
theorem m_t1095 : Cond.instanceMethod yX6_one ∈ BIG := big_t 1095 (by decide +kernel) (by decide +kernel)
theorem m_t1096 : Cond.selects RX6 yX6_one yX6_one ∈ BIG := big_t 1096 (by decide +kernel) (by decide +kernel)
theorem m_t1097 : Cond.code yX6_one cX6_one 6 (some .int) ∈ BIG := big_t 1097 (by decide +kernel) (by decide +kernel)
theorem m_t1098 : Cond.methodLink RX6 137 yX6_add ∈ BIG := big_t 1098 (by decide +kernel) (by decide +kernel)
theorem m_t1100 : Cond.instanceMethod yX6_add ∈ BIG := big_t 1100 (by decide +kernel) (by decide +kernel)
theorem m_t1101 : Cond.code yX6_add cX6_add 9 (some .int) ∈ BIG := big_t 1101 (by decide +kernel) (by decide +kernel)
theorem m_t1102 : Cond.constantLong RX6 130 9 ∈ BIG := big_t 1102 (by decide +kernel) (by decide +kernel)
theorem m_t1103 : Cond.constantLong RX6 132 10 ∈ BIG := big_t 1103 (by decide +kernel) (by decide +kernel)
theorem m_t1104 : Cond.methodLink RX6 134 yX6_newOne ∈ BIG := big_t 1104 (by decide +kernel) (by decide +kernel)
theorem m_t1106 : Cond.instanceMethod yX6_newOne ∈ BIG := big_t 1106 (by decide +kernel) (by decide +kernel)
theorem m_t1107 : Cond.code yX6_newOne cX6_newOne 2 none ∈ BIG := big_t 1107 (by decide +kernel) (by decide +kernel)
theorem m_t1108 : Cond.methodLink RL 61 yX6_ones ∈ BIG := big_t 1108 (by decide +kernel) (by decide +kernel)
theorem m_t1109 : Cond.instanceMethod yX6_ones ∈ BIG := big_t 1109 (by decide +kernel) (by decide +kernel)
theorem m_t1110 : Cond.selects RX6 yX6_ones yX6_ones ∈ BIG := big_t 1110 (by decide +kernel) (by decide +kernel)
theorem m_t1111 : Cond.code yX6_ones cX6_ones 6 (some .int) ∈ BIG := big_t 1111 (by decide +kernel) (by decide +kernel)
theorem m_t1112 : Cond.methodLink RL 65 yX6_feed ∈ BIG := big_t 1112 (by decide +kernel) (by decide +kernel)
theorem m_t1113 : Cond.instanceMethod yX6_feed ∈ BIG := big_t 1113 (by decide +kernel) (by decide +kernel)
theorem m_t1114 : Cond.selects RX6 yX6_feed yX6_feed ∈ BIG := big_t 1114 (by decide +kernel) (by decide +kernel)
theorem m_t1115 : Cond.code yX6_feed cX6_feed 4 (some .int) ∈ BIG := big_t 1115 (by decide +kernel) (by decide +kernel)
theorem m_t1116 : Cond.methodLink RL 70 yX6_wipe ∈ BIG := big_t 1116 (by decide +kernel) (by decide +kernel)
theorem m_t1117 : Cond.instanceMethod yX6_wipe ∈ BIG := big_t 1117 (by decide +kernel) (by decide +kernel)
theorem m_t1118 : Cond.selects RX6 yX6_wipe yX6_wipe ∈ BIG := big_t 1118 (by decide +kernel) (by decide +kernel)
theorem m_t1119 : Cond.code yX6_wipe cX6_wipe 2 (some .int) ∈ BIG := big_t 1119 (by decide +kernel) (by decide +kernel)
theorem m_t1120 : Cond.methodLink RL 74 yX6_town ∈ BIG := big_t 1120 (by decide +kernel) (by decide +kernel)
theorem m_t1121 : Cond.instanceMethod yX6_town ∈ BIG := big_t 1121 (by decide +kernel) (by decide +kernel)
theorem m_t1122 : Cond.selects RX6 yX6_town yX6_town ∈ BIG := big_t 1122 (by decide +kernel) (by decide +kernel)
theorem m_t1123 : Cond.code yX6_town cX6_town 3 (some .int) ∈ BIG := big_t 1123 (by decide +kernel) (by decide +kernel)
theorem m_t1124 : Cond.methodLink RX6 222 yX6_readAll ∈ BIG := big_t 1124 (by decide +kernel) (by decide +kernel)
theorem m_t1126 : Cond.instanceMethod yX6_readAll ∈ BIG := big_t 1126 (by decide +kernel) (by decide +kernel)
theorem m_t1127 : Cond.code yX6_readAll cX6_readAll 1 (some .boolean) ∈ BIG := big_t 1127 (by decide +kernel) (by decide +kernel)
theorem m_t1128 : Cond.methodLink RX6 183 yX6_look ∈ BIG := big_t 1128 (by decide +kernel) (by decide +kernel)
theorem m_t1130 : Cond.instanceMethod yX6_look ∈ BIG := big_t 1130 (by decide +kernel) (by decide +kernel)
theorem m_t1131 : Cond.code yX6_look cX6_look 1 none ∈ BIG := big_t 1131 (by decide +kernel) (by decide +kernel)
theorem m_t1132 : Cond.methodLink RX6 157 yX6_isLetter ∈ BIG := big_t 1132 (by decide +kernel) (by decide +kernel)
theorem m_t1133 : Cond.static yX6_isLetter ∈ BIG := big_t 1133 (by decide +kernel) (by decide +kernel)
theorem m_t1134 : Cond.code yX6_isLetter cX6_isLetter 1 (some .boolean) ∈ BIG := big_t 1134 (by decide +kernel) (by decide +kernel)
theorem m_t1135 : Cond.methodLink RX6 160 yX6_isDigit ∈ BIG := big_t 1135 (by decide +kernel) (by decide +kernel)
theorem m_t1136 : Cond.static yX6_isDigit ∈ BIG := big_t 1136 (by decide +kernel) (by decide +kernel)
theorem m_t1137 : Cond.code yX6_isDigit cX6_isDigit 1 (some .boolean) ∈ BIG := big_t 1137 (by decide +kernel) (by decide +kernel)
theorem m_t1138 : Cond.constantLong RX6 163 48 ∈ BIG := big_t 1138 (by decide +kernel) (by decide +kernel)
theorem m_t1139 : Cond.constantLong RX6 165 100000 ∈ BIG := big_t 1139 (by decide +kernel) (by decide +kernel)
theorem m_t1140 : Cond.methodLink RX6 219 yX6_statement ∈ BIG := big_t 1140 (by decide +kernel) (by decide +kernel)
theorem m_t1142 : Cond.instanceMethod yX6_statement ∈ BIG := big_t 1142 (by decide +kernel) (by decide +kernel)
theorem m_t1143 : Cond.code yX6_statement cX6_statement 2 (some .boolean) ∈ BIG := big_t 1143 (by decide +kernel) (by decide +kernel)
theorem m_t1145 : Cond.methodLink RX6 186 yX6_isWord ∈ BIG := big_t 1145 (by decide +kernel) (by decide +kernel)
theorem m_t1147 : Cond.instanceMethod yX6_isWord ∈ BIG := big_t 1147 (by decide +kernel) (by decide +kernel)
theorem m_t1148 : Cond.code yX6_isWord cX6_isWord 3 (some .boolean) ∈ BIG := big_t 1148 (by decide +kernel) (by decide +kernel)
theorem m_t1149 : Cond.methodLink RX6 170 yJ0_length_8abf5 ∈ BIG := big_t 1149 (by decide +kernel) (by decide +kernel)
theorem m_t1150 : Cond.methodLink RX6 175 yJ0_charAt_5068e ∈ BIG := big_t 1150 (by decide +kernel) (by decide +kernel)
theorem m_t1151 : Cond.methodLink RX6 194 yX6_tells ∈ BIG := big_t 1151 (by decide +kernel) (by decide +kernel)
theorem m_t1153 : Cond.instanceMethod yX6_tells ∈ BIG := big_t 1153 (by decide +kernel) (by decide +kernel)
theorem m_t1154 : Cond.code yX6_tells cX6_tells 6 (some .boolean) ∈ BIG := big_t 1154 (by decide +kernel) (by decide +kernel)
theorem m_t1155 : Cond.methodLink RX6 179 yX6_wrong ∈ BIG := big_t 1155 (by decide +kernel) (by decide +kernel)
theorem m_t1157 : Cond.instanceMethod yX6_wrong ∈ BIG := big_t 1157 (by decide +kernel) (by decide +kernel)
theorem m_t1158 : Cond.code yX6_wrong cX6_wrong 1 (some .boolean) ∈ BIG := big_t 1158 (by decide +kernel) (by decide +kernel)
theorem m_t1159 : Cond.methodLink RX6 190 yX6_number ∈ BIG := big_t 1159 (by decide +kernel) (by decide +kernel)
theorem m_t1161 : Cond.instanceMethod yX6_number ∈ BIG := big_t 1161 (by decide +kernel) (by decide +kernel)
theorem m_t1162 : Cond.code yX6_number cX6_number 5 (some .boolean) ∈ BIG := big_t 1162 (by decide +kernel) (by decide +kernel)
theorem m_t1164 : Cond.methodLink RX6 201 yX6_perhaps ∈ BIG := big_t 1164 (by decide +kernel) (by decide +kernel)
theorem m_t1166 : Cond.instanceMethod yX6_perhaps ∈ BIG := big_t 1166 (by decide +kernel) (by decide +kernel)
theorem m_t1167 : Cond.code yX6_perhaps cX6_perhaps 6 (some .boolean) ∈ BIG := big_t 1167 (by decide +kernel) (by decide +kernel)
theorem m_t1175 : Cond.methodLink RL 78 yX6_bookOf ∈ BIG := big_t 1175 (by decide +kernel) (by decide +kernel)
theorem m_t1176 : Cond.instanceMethod yX6_bookOf ∈ BIG := big_t 1176 (by decide +kernel) (by decide +kernel)
theorem m_t1177 : Cond.selects RX6 yX6_bookOf yX6_bookOf ∈ BIG := big_t 1177 (by decide +kernel) (by decide +kernel)
theorem m_t1178 : Cond.code yX6_bookOf cX6_bookOf 3 (some .int) ∈ BIG := big_t 1178 (by decide +kernel) (by decide +kernel)
theorem m_t1179 : Cond.methodLink RX6 229 yX6_isBook ∈ BIG := big_t 1179 (by decide +kernel) (by decide +kernel)
theorem m_t1181 : Cond.instanceMethod yX6_isBook ∈ BIG := big_t 1181 (by decide +kernel) (by decide +kernel)
theorem m_t1182 : Cond.code yX6_isBook cX6_isBook 3 (some .boolean) ∈ BIG := big_t 1182 (by decide +kernel) (by decide +kernel)
theorem m_t1183 : Cond.methodLink RL 82 yX6_oneOf ∈ BIG := big_t 1183 (by decide +kernel) (by decide +kernel)
theorem m_t1184 : Cond.instanceMethod yX6_oneOf ∈ BIG := big_t 1184 (by decide +kernel) (by decide +kernel)
theorem m_t1185 : Cond.selects RX6 yX6_oneOf yX6_oneOf ∈ BIG := big_t 1185 (by decide +kernel) (by decide +kernel)
theorem m_t1186 : Cond.code yX6_oneOf cX6_oneOf 3 (some .int) ∈ BIG := big_t 1186 (by decide +kernel) (by decide +kernel)
theorem m_t1187 : Cond.methodLink RX6 236 yX6_isOne ∈ BIG := big_t 1187 (by decide +kernel) (by decide +kernel)
theorem m_t1189 : Cond.instanceMethod yX6_isOne ∈ BIG := big_t 1189 (by decide +kernel) (by decide +kernel)
theorem m_t1190 : Cond.code yX6_isOne cX6_isOne 3 (some .boolean) ∈ BIG := big_t 1190 (by decide +kernel) (by decide +kernel)
theorem m_t1191 : Cond.methodLink RL 86 yX6_known ∈ BIG := big_t 1191 (by decide +kernel) (by decide +kernel)
theorem m_t1192 : Cond.instanceMethod yX6_known ∈ BIG := big_t 1192 (by decide +kernel) (by decide +kernel)
theorem m_t1193 : Cond.selects RX6 yX6_known yX6_known ∈ BIG := big_t 1193 (by decide +kernel) (by decide +kernel)
theorem m_t1194 : Cond.code yX6_known cX6_known 3 (some .int) ∈ BIG := big_t 1194 (by decide +kernel) (by decide +kernel)
theorem m_t1195 : Cond.methodLink RL 90 yX6_alter ∈ BIG := big_t 1195 (by decide +kernel) (by decide +kernel)
theorem m_t1196 : Cond.instanceMethod yX6_alter ∈ BIG := big_t 1196 (by decide +kernel) (by decide +kernel)
theorem m_t1197 : Cond.selects RX6 yX6_alter yX6_alter ∈ BIG := big_t 1197 (by decide +kernel) (by decide +kernel)
theorem m_t1198 : Cond.code yX6_alter cX6_alter 5 (some .int) ∈ BIG := big_t 1198 (by decide +kernel) (by decide +kernel)
theorem m_t1199 : Cond.constantLong RX6 239 1000 ∈ BIG := big_t 1199 (by decide +kernel) (by decide +kernel)
theorem m_t1200 : Cond.methodLink RL 175 yX6_needs ∈ BIG := big_t 1200 (by decide +kernel) (by decide +kernel)
theorem m_t1201 : Cond.instanceMethod yX6_needs ∈ BIG := big_t 1201 (by decide +kernel) (by decide +kernel)
theorem m_t1202 : Cond.selects RX6 yX6_needs yX6_needs ∈ BIG := big_t 1202 (by decide +kernel) (by decide +kernel)
theorem m_t1203 : Cond.code yX6_needs cX6_needs 5 (some .int) ∈ BIG := big_t 1203 (by decide +kernel) (by decide +kernel)
theorem m_t1204 : Cond.methodLink RL 94 yX6_ground ∈ BIG := big_t 1204 (by decide +kernel) (by decide +kernel)
theorem m_t1205 : Cond.instanceMethod yX6_ground ∈ BIG := big_t 1205 (by decide +kernel) (by decide +kernel)
theorem m_t1206 : Cond.selects RX6 yX6_ground yX6_ground ∈ BIG := big_t 1206 (by decide +kernel) (by decide +kernel)
theorem m_t1207 : Cond.code yX6_ground cX6_ground 3 (some .int) ∈ BIG := big_t 1207 (by decide +kernel) (by decide +kernel)
theorem m_t1208 : Cond.methodLink RL 98 yX6_would ∈ BIG := big_t 1208 (by decide +kernel) (by decide +kernel)
theorem m_t1209 : Cond.instanceMethod yX6_would ∈ BIG := big_t 1209 (by decide +kernel) (by decide +kernel)
theorem m_t1210 : Cond.selects RX6 yX6_would yX6_would ∈ BIG := big_t 1210 (by decide +kernel) (by decide +kernel)
theorem m_t1211 : Cond.code yX6_would cX6_would 4 (some .int) ∈ BIG := big_t 1211 (by decide +kernel) (by decide +kernel)
theorem m_t1212 : Cond.methodLink RX6 251 yX6_noReading ∈ BIG := big_t 1212 (by decide +kernel) (by decide +kernel)
theorem m_t1214 : Cond.instanceMethod yX6_noReading ∈ BIG := big_t 1214 (by decide +kernel) (by decide +kernel)
theorem m_t1215 : Cond.code yX6_noReading cX6_noReading 3 (some .int) ∈ BIG := big_t 1215 (by decide +kernel) (by decide +kernel)
theorem m_t1216 : Cond.methodLink RL 102 yX6_read ∈ BIG := big_t 1216 (by decide +kernel) (by decide +kernel)
theorem m_t1217 : Cond.instanceMethod yX6_read ∈ BIG := big_t 1217 (by decide +kernel) (by decide +kernel)
theorem m_t1218 : Cond.selects RX6 yX6_read yX6_read ∈ BIG := big_t 1218 (by decide +kernel) (by decide +kernel)
theorem m_t1219 : Cond.code yX6_read cX6_read 4 (some .int) ∈ BIG := big_t 1219 (by decide +kernel) (by decide +kernel)
theorem m_t1220 : Cond.methodLink RL 106 yX6_aloud ∈ BIG := big_t 1220 (by decide +kernel) (by decide +kernel)
theorem m_t1221 : Cond.instanceMethod yX6_aloud ∈ BIG := big_t 1221 (by decide +kernel) (by decide +kernel)
theorem m_t1222 : Cond.selects RX6 yX6_aloud yX6_aloud ∈ BIG := big_t 1222 (by decide +kernel) (by decide +kernel)
theorem m_t1223 : Cond.code yX6_aloud cX6_aloud 5 (some .int) ∈ BIG := big_t 1223 (by decide +kernel) (by decide +kernel)
theorem m_t1224 : Cond.methodLink RL 110 yX6_tell ∈ BIG := big_t 1224 (by decide +kernel) (by decide +kernel)
theorem m_t1225 : Cond.instanceMethod yX6_tell ∈ BIG := big_t 1225 (by decide +kernel) (by decide +kernel)
theorem m_t1226 : Cond.selects RX6 yX6_tell yX6_tell ∈ BIG := big_t 1226 (by decide +kernel) (by decide +kernel)
theorem m_t1227 : Cond.code yX6_tell cX6_tell 5 (some .int) ∈ BIG := big_t 1227 (by decide +kernel) (by decide +kernel)
theorem m_t1228 : Cond.methodLink RL 170 yX6_teach ∈ BIG := big_t 1228 (by decide +kernel) (by decide +kernel)
theorem m_t1229 : Cond.instanceMethod yX6_teach ∈ BIG := big_t 1229 (by decide +kernel) (by decide +kernel)
theorem m_t1230 : Cond.selects RX6 yX6_teach yX6_teach ∈ BIG := big_t 1230 (by decide +kernel) (by decide +kernel)
theorem m_t1231 : Cond.code yX6_teach cX6_teach 7 (some .int) ∈ BIG := big_t 1231 (by decide +kernel) (by decide +kernel)
theorem m_t1232 : Cond.methodLink RL 114 yX6_write ∈ BIG := big_t 1232 (by decide +kernel) (by decide +kernel)
theorem m_t1233 : Cond.instanceMethod yX6_write ∈ BIG := big_t 1233 (by decide +kernel) (by decide +kernel)
theorem m_t1234 : Cond.selects RX6 yX6_write yX6_write ∈ BIG := big_t 1234 (by decide +kernel) (by decide +kernel)
theorem m_t1235 : Cond.code yX6_write cX6_write 3 (some .int) ∈ BIG := big_t 1235 (by decide +kernel) (by decide +kernel)
theorem m_t1236 : Cond.methodLink RL 118 yX6_value ∈ BIG := big_t 1236 (by decide +kernel) (by decide +kernel)
theorem m_t1237 : Cond.instanceMethod yX6_value ∈ BIG := big_t 1237 (by decide +kernel) (by decide +kernel)
theorem m_t1238 : Cond.selects RX6 yX6_value yX6_value ∈ BIG := big_t 1238 (by decide +kernel) (by decide +kernel)
theorem m_t1239 : Cond.code yX6_value cX6_value 1 (some .int) ∈ BIG := big_t 1239 (by decide +kernel) (by decide +kernel)
theorem m_t1240 : Cond.methodLink RL 183 yX6_two ∈ BIG := big_t 1240 (by decide +kernel) (by decide +kernel)
theorem m_t1241 : Cond.instanceMethod yX6_two ∈ BIG := big_t 1241 (by decide +kernel) (by decide +kernel)
theorem m_t1242 : Cond.selects RX6 yX6_two yX6_two ∈ BIG := big_t 1242 (by decide +kernel) (by decide +kernel)
theorem m_t1243 : Cond.code yX6_two cX6_two 3 (some .int) ∈ BIG := big_t 1243 (by decide +kernel) (by decide +kernel)
theorem m_t1244 : Cond.methodLink RL 166 yX6_youngest ∈ BIG := big_t 1244 (by decide +kernel) (by decide +kernel)
theorem m_t1245 : Cond.instanceMethod yX6_youngest ∈ BIG := big_t 1245 (by decide +kernel) (by decide +kernel)
theorem m_t1246 : Cond.selects RX6 yX6_youngest yX6_youngest ∈ BIG := big_t 1246 (by decide +kernel) (by decide +kernel)
theorem m_t1247 : Cond.code yX6_youngest cX6_youngest 2 (some .int) ∈ BIG := big_t 1247 (by decide +kernel) (by decide +kernel)
theorem m_t1248 : Cond.methodLink RL 122 yX6_reader ∈ BIG := big_t 1248 (by decide +kernel) (by decide +kernel)
theorem m_t1249 : Cond.instanceMethod yX6_reader ∈ BIG := big_t 1249 (by decide +kernel) (by decide +kernel)
theorem m_t1250 : Cond.selects RX6 yX6_reader yX6_reader ∈ BIG := big_t 1250 (by decide +kernel) (by decide +kernel)
theorem m_t1251 : Cond.code yX6_reader cX6_reader 2 (some .int) ∈ BIG := big_t 1251 (by decide +kernel) (by decide +kernel)
theorem m_t1252 : Cond.methodLink RL 179 yX6_next ∈ BIG := big_t 1252 (by decide +kernel) (by decide +kernel)
theorem m_t1253 : Cond.instanceMethod yX6_next ∈ BIG := big_t 1253 (by decide +kernel) (by decide +kernel)
theorem m_t1254 : Cond.selects RX6 yX6_next yX6_next ∈ BIG := big_t 1254 (by decide +kernel) (by decide +kernel)
theorem m_t1255 : Cond.code yX6_next cX6_next 6 (some .int) ∈ BIG := big_t 1255 (by decide +kernel) (by decide +kernel)
theorem m_t1256 : Cond.methodLink RL 203 yX6_ends ∈ BIG := big_t 1256 (by decide +kernel) (by decide +kernel)
theorem m_t1257 : Cond.instanceMethod yX6_ends ∈ BIG := big_t 1257 (by decide +kernel) (by decide +kernel)
theorem m_t1258 : Cond.selects RX6 yX6_ends yX6_ends ∈ BIG := big_t 1258 (by decide +kernel) (by decide +kernel)
theorem m_t1259 : Cond.code yX6_ends cX6_ends 1 (some .int) ∈ BIG := big_t 1259 (by decide +kernel) (by decide +kernel)
theorem m_t1260 : Cond.methodLink RX6 288 yX6_end ∈ BIG := big_t 1260 (by decide +kernel) (by decide +kernel)
theorem m_t1262 : Cond.instanceMethod yX6_end ∈ BIG := big_t 1262 (by decide +kernel) (by decide +kernel)
theorem m_t1263 : Cond.code yX6_end cX6_end 5 (some .int) ∈ BIG := big_t 1263 (by decide +kernel) (by decide +kernel)
theorem m_t1264 : Cond.methodLink RL 126 yX6_run ∈ BIG := big_t 1264 (by decide +kernel) (by decide +kernel)
theorem m_t1265 : Cond.instanceMethod yX6_run ∈ BIG := big_t 1265 (by decide +kernel) (by decide +kernel)
theorem m_t1266 : Cond.selects RX6 yX6_run yX6_run ∈ BIG := big_t 1266 (by decide +kernel) (by decide +kernel)
theorem m_t1267 : Cond.code yX6_run cX6_run 6 (some .int) ∈ BIG := big_t 1267 (by decide +kernel) (by decide +kernel)
theorem m_t1268 : Cond.constantLong RX6 298 60 ∈ BIG := big_t 1268 (by decide +kernel) (by decide +kernel)
theorem m_t1269 : Cond.constantLong RX6 300 3 ∈ BIG := big_t 1269 (by decide +kernel) (by decide +kernel)
theorem m_t1270 : Cond.methodLink RX6 302 yX6_noRule ∈ BIG := big_t 1270 (by decide +kernel) (by decide +kernel)
theorem m_t1272 : Cond.instanceMethod yX6_noRule ∈ BIG := big_t 1272 (by decide +kernel) (by decide +kernel)
theorem m_t1273 : Cond.code yX6_noRule cX6_noRule 2 (some .int) ∈ BIG := big_t 1273 (by decide +kernel) (by decide +kernel)
theorem m_t1274 : Cond.methodLink RX6 305 yX6_sumOf ∈ BIG := big_t 1274 (by decide +kernel) (by decide +kernel)
theorem m_t1276 : Cond.instanceMethod yX6_sumOf ∈ BIG := big_t 1276 (by decide +kernel) (by decide +kernel)
theorem m_t1277 : Cond.code yX6_sumOf cX6_sumOf 3 (some .int) ∈ BIG := big_t 1277 (by decide +kernel) (by decide +kernel)
theorem m_t1278 : Cond.methodLink RX6 295 yX6_goes ∈ BIG := big_t 1278 (by decide +kernel) (by decide +kernel)
theorem m_t1280 : Cond.instanceMethod yX6_goes ∈ BIG := big_t 1280 (by decide +kernel) (by decide +kernel)
theorem m_t1281 : Cond.code yX6_goes cX6_goes 6 (some .int) ∈ BIG := big_t 1281 (by decide +kernel) (by decide +kernel)
theorem m_t1282 : Cond.methodLink RX6 308 yX6_whiteMany ∈ BIG := big_t 1282 (by decide +kernel) (by decide +kernel)
theorem m_t1284 : Cond.instanceMethod yX6_whiteMany ∈ BIG := big_t 1284 (by decide +kernel) (by decide +kernel)
theorem m_t1285 : Cond.code yX6_whiteMany cX6_whiteMany 3 (some .int) ∈ BIG := big_t 1285 (by decide +kernel) (by decide +kernel)
theorem m_t1286 : Cond.methodLink RL 187 yX6_gains ∈ BIG := big_t 1286 (by decide +kernel) (by decide +kernel)
theorem m_t1287 : Cond.instanceMethod yX6_gains ∈ BIG := big_t 1287 (by decide +kernel) (by decide +kernel)
theorem m_t1288 : Cond.selects RX6 yX6_gains yX6_gains ∈ BIG := big_t 1288 (by decide +kernel) (by decide +kernel)
theorem m_t1289 : Cond.code yX6_gains cX6_gains 4 (some .int) ∈ BIG := big_t 1289 (by decide +kernel) (by decide +kernel)
theorem m_t1290 : Cond.constant RX6 311 1000000 ∈ BIG := big_t 1290 (by decide +kernel) (by decide +kernel)
theorem m_t1291 : Cond.methodLink RL 130 yX6_head ∈ BIG := big_t 1291 (by decide +kernel) (by decide +kernel)
theorem m_t1292 : Cond.instanceMethod yX6_head ∈ BIG := big_t 1292 (by decide +kernel) (by decide +kernel)
theorem m_t1293 : Cond.selects RX6 yX6_head yX6_head ∈ BIG := big_t 1293 (by decide +kernel) (by decide +kernel)
theorem m_t1294 : Cond.code yX6_head cX6_head 6 (some .int) ∈ BIG := big_t 1294 (by decide +kernel) (by decide +kernel)
theorem m_t1295 : Cond.methodLink RL 134 yX6_who ∈ BIG := big_t 1295 (by decide +kernel) (by decide +kernel)
theorem m_t1296 : Cond.instanceMethod yX6_who ∈ BIG := big_t 1296 (by decide +kernel) (by decide +kernel)
theorem m_t1297 : Cond.selects RX6 yX6_who yX6_who ∈ BIG := big_t 1297 (by decide +kernel) (by decide +kernel)
theorem m_t1298 : Cond.code yX6_who cX6_who 4 (some .int) ∈ BIG := big_t 1298 (by decide +kernel) (by decide +kernel)
theorem m_t1299 : Cond.methodLink RX6 315 yX6_findWho ∈ BIG := big_t 1299 (by decide +kernel) (by decide +kernel)
theorem m_t1301 : Cond.instanceMethod yX6_findWho ∈ BIG := big_t 1301 (by decide +kernel) (by decide +kernel)
theorem m_t1302 : Cond.code yX6_findWho cX6_findWho 6 (some .int) ∈ BIG := big_t 1302 (by decide +kernel) (by decide +kernel)
theorem m_t1303 : Cond.methodLink RL 142 yX6_keeping ∈ BIG := big_t 1303 (by decide +kernel) (by decide +kernel)
theorem m_t1304 : Cond.instanceMethod yX6_keeping ∈ BIG := big_t 1304 (by decide +kernel) (by decide +kernel)
theorem m_t1305 : Cond.selects RX6 yX6_keeping yX6_keeping ∈ BIG := big_t 1305 (by decide +kernel) (by decide +kernel)
theorem m_t1306 : Cond.code yX6_keeping cX6_keeping 4 (some .int) ∈ BIG := big_t 1306 (by decide +kernel) (by decide +kernel)
theorem m_t1307 : Cond.constantLong RX6 318 2 ∈ BIG := big_t 1307 (by decide +kernel) (by decide +kernel)
theorem m_t1308 : Cond.methodLink RL 138 yX6_order ∈ BIG := big_t 1308 (by decide +kernel) (by decide +kernel)
theorem m_t1309 : Cond.instanceMethod yX6_order ∈ BIG := big_t 1309 (by decide +kernel) (by decide +kernel)
theorem m_t1310 : Cond.selects RX6 yX6_order yX6_order ∈ BIG := big_t 1310 (by decide +kernel) (by decide +kernel)
theorem m_t1311 : Cond.code yX6_order cX6_order 5 (some .int) ∈ BIG := big_t 1311 (by decide +kernel) (by decide +kernel)
theorem m_t1312 : Cond.constantLong RX6 330 (-1) ∈ BIG := big_t 1312 (by decide +kernel) (by decide +kernel)
theorem m_t1313 : Cond.methodLink RX6 326 yX6_rowsFrom ∈ BIG := big_t 1313 (by decide +kernel) (by decide +kernel)
theorem m_t1315 : Cond.instanceMethod yX6_rowsFrom ∈ BIG := big_t 1315 (by decide +kernel) (by decide +kernel)
theorem m_t1316 : Cond.code yX6_rowsFrom cX6_rowsFrom 8 none ∈ BIG := big_t 1316 (by decide +kernel) (by decide +kernel)
theorem m_t1317 : Cond.methodLink RL 146 yX6_left ∈ BIG := big_t 1317 (by decide +kernel) (by decide +kernel)
theorem m_t1318 : Cond.instanceMethod yX6_left ∈ BIG := big_t 1318 (by decide +kernel) (by decide +kernel)
theorem m_t1319 : Cond.selects RX6 yX6_left yX6_left ∈ BIG := big_t 1319 (by decide +kernel) (by decide +kernel)
theorem m_t1320 : Cond.code yX6_left cX6_left 4 (some .int) ∈ BIG := big_t 1320 (by decide +kernel) (by decide +kernel)
theorem m_t1321 : Cond.methodLink RX6 332 yX6_leftOf ∈ BIG := big_t 1321 (by decide +kernel) (by decide +kernel)
theorem m_t1322 : Cond.static yX6_leftOf ∈ BIG := big_t 1322 (by decide +kernel) (by decide +kernel)
theorem m_t1323 : Cond.code yX6_leftOf cX6_leftOf 5 (some .int) ∈ BIG := big_t 1323 (by decide +kernel) (by decide +kernel)
theorem m_t1324 : Cond.methodLink RL 150 yX6_longest ∈ BIG := big_t 1324 (by decide +kernel) (by decide +kernel)
theorem m_t1325 : Cond.instanceMethod yX6_longest ∈ BIG := big_t 1325 (by decide +kernel) (by decide +kernel)
theorem m_t1326 : Cond.selects RX6 yX6_longest yX6_longest ∈ BIG := big_t 1326 (by decide +kernel) (by decide +kernel)
theorem m_t1327 : Cond.code yX6_longest cX6_longest 5 (some .int) ∈ BIG := big_t 1327 (by decide +kernel) (by decide +kernel)
theorem m_t1328 : Cond.methodLink RL 154 yX6_hangs ∈ BIG := big_t 1328 (by decide +kernel) (by decide +kernel)
theorem m_t1329 : Cond.instanceMethod yX6_hangs ∈ BIG := big_t 1329 (by decide +kernel) (by decide +kernel)
theorem m_t1330 : Cond.selects RX6 yX6_hangs yX6_hangs ∈ BIG := big_t 1330 (by decide +kernel) (by decide +kernel)
theorem m_t1331 : Cond.code yX6_hangs cX6_hangs 6 (some .int) ∈ BIG := big_t 1331 (by decide +kernel) (by decide +kernel)
theorem m_t1332 : Cond.methodLink RL 158 yX6_lost ∈ BIG := big_t 1332 (by decide +kernel) (by decide +kernel)
theorem m_t1333 : Cond.instanceMethod yX6_lost ∈ BIG := big_t 1333 (by decide +kernel) (by decide +kernel)
theorem m_t1334 : Cond.selects RX6 yX6_lost yX6_lost ∈ BIG := big_t 1334 (by decide +kernel) (by decide +kernel)
theorem m_t1335 : Cond.code yX6_lost cX6_lost 2 (some .int) ∈ BIG := big_t 1335 (by decide +kernel) (by decide +kernel)
theorem m_t1336 : Cond.methodLink RX6 335 yX6_lostBy ∈ BIG := big_t 1336 (by decide +kernel) (by decide +kernel)
theorem m_t1338 : Cond.instanceMethod yX6_lostBy ∈ BIG := big_t 1338 (by decide +kernel) (by decide +kernel)
theorem m_t1339 : Cond.code yX6_lostBy cX6_lostBy 5 (some .int) ∈ BIG := big_t 1339 (by decide +kernel) (by decide +kernel)
theorem m_t1340 : Cond.methodLink RL 162 yX6_bear ∈ BIG := big_t 1340 (by decide +kernel) (by decide +kernel)
theorem m_t1341 : Cond.instanceMethod yX6_bear ∈ BIG := big_t 1341 (by decide +kernel) (by decide +kernel)
theorem m_t1342 : Cond.selects RX6 yX6_bear yX6_bear ∈ BIG := big_t 1342 (by decide +kernel) (by decide +kernel)
theorem m_t1343 : Cond.code yX6_bear cX6_bear 5 (some .int) ∈ BIG := big_t 1343 (by decide +kernel) (by decide +kernel)
theorem m_t1344 : Cond.methodLink RX6 338 yX6_bits ∈ BIG := big_t 1344 (by decide +kernel) (by decide +kernel)
theorem m_t1345 : Cond.static yX6_bits ∈ BIG := big_t 1345 (by decide +kernel) (by decide +kernel)
theorem m_t1346 : Cond.code yX6_bits cX6_bits 3 (some .int) ∈ BIG := big_t 1346 (by decide +kernel) (by decide +kernel)
theorem m_t1347 : Cond.methodLink RL 191 yX6_judge ∈ BIG := big_t 1347 (by decide +kernel) (by decide +kernel)
theorem m_t1348 : Cond.instanceMethod yX6_judge ∈ BIG := big_t 1348 (by decide +kernel) (by decide +kernel)
theorem m_t1349 : Cond.selects RX6 yX6_judge yX6_judge ∈ BIG := big_t 1349 (by decide +kernel) (by decide +kernel)
theorem m_t1350 : Cond.code yX6_judge cX6_judge 4 (some .int) ∈ BIG := big_t 1350 (by decide +kernel) (by decide +kernel)
theorem m_t1351 : Cond.methodLink RX6 345 yX6_noTold ∈ BIG := big_t 1351 (by decide +kernel) (by decide +kernel)
theorem m_t1353 : Cond.instanceMethod yX6_noTold ∈ BIG := big_t 1353 (by decide +kernel) (by decide +kernel)
theorem m_t1354 : Cond.code yX6_noTold cX6_noTold 4 (some .int) ∈ BIG := big_t 1354 (by decide +kernel) (by decide +kernel)
theorem m_t1355 : Cond.constantLong RX6 341 20 ∈ BIG := big_t 1355 (by decide +kernel) (by decide +kernel)
theorem m_t1356 : Cond.methodLink RX6 348 yX6_wrongAt ∈ BIG := big_t 1356 (by decide +kernel) (by decide +kernel)
theorem m_t1358 : Cond.instanceMethod yX6_wrongAt ∈ BIG := big_t 1358 (by decide +kernel) (by decide +kernel)
theorem m_t1359 : Cond.code yX6_wrongAt cX6_wrongAt 9 (some .int) ∈ BIG := big_t 1359 (by decide +kernel) (by decide +kernel)
theorem m_t1360 : Cond.constantLong RX6 343 100 ∈ BIG := big_t 1360 (by decide +kernel) (by decide +kernel)
theorem m_t1361 : Cond.methodLink RL 195 yX6_told ∈ BIG := big_t 1361 (by decide +kernel) (by decide +kernel)
theorem m_t1362 : Cond.instanceMethod yX6_told ∈ BIG := big_t 1362 (by decide +kernel) (by decide +kernel)
theorem m_t1363 : Cond.selects RX6 yX6_told yX6_told ∈ BIG := big_t 1363 (by decide +kernel) (by decide +kernel)
theorem m_t1364 : Cond.code yX6_told cX6_told 4 (some .int) ∈ BIG := big_t 1364 (by decide +kernel) (by decide +kernel)
theorem m_t1365 : Cond.methodLink RL 199 yX6_years ∈ BIG := big_t 1365 (by decide +kernel) (by decide +kernel)
theorem m_t1366 : Cond.instanceMethod yX6_years ∈ BIG := big_t 1366 (by decide +kernel) (by decide +kernel)
theorem m_t1367 : Cond.selects RX6 yX6_years yX6_years ∈ BIG := big_t 1367 (by decide +kernel) (by decide +kernel)
theorem m_t1368 : Cond.code yX6_years cX6_years 7 (some .int) ∈ BIG := big_t 1368 (by decide +kernel) (by decide +kernel)
theorem m_t1369 : Cond.methodLink RX6 352 yX6_draw ∈ BIG := big_t 1369 (by decide +kernel) (by decide +kernel)
theorem m_t1371 : Cond.instanceMethod yX6_draw ∈ BIG := big_t 1371 (by decide +kernel) (by decide +kernel)
theorem m_t1372 : Cond.code yX6_draw cX6_draw 2 (some .int) ∈ BIG := big_t 1372 (by decide +kernel) (by decide +kernel)
theorem m_t1373 : Cond.constant RX6 351 1103515245 ∈ BIG := big_t 1373 (by decide +kernel) (by decide +kernel)
theorem m_t1374 : Cond.methodLink RL 207 yX6_seed ∈ BIG := big_t 1374 (by decide +kernel) (by decide +kernel)
theorem m_t1375 : Cond.instanceMethod yX6_seed ∈ BIG := big_t 1375 (by decide +kernel) (by decide +kernel)
theorem m_t1376 : Cond.selects RX6 yX6_seed yX6_seed ∈ BIG := big_t 1376 (by decide +kernel) (by decide +kernel)
theorem m_t1377 : Cond.code yX6_seed cX6_seed 3 (some .int) ∈ BIG := big_t 1377 (by decide +kernel) (by decide +kernel)
theorem m_t1378 : Cond.methodLink RL 211 yX6_image ∈ BIG := big_t 1378 (by decide +kernel) (by decide +kernel)
theorem m_t1379 : Cond.instanceMethod yX6_image ∈ BIG := big_t 1379 (by decide +kernel) (by decide +kernel)
theorem m_t1380 : Cond.selects RX6 yX6_image yX6_image ∈ BIG := big_t 1380 (by decide +kernel) (by decide +kernel)
theorem m_t1381 : Cond.code yX6_image cX6_image 1 (some .int) ∈ BIG := big_t 1381 (by decide +kernel) (by decide +kernel)
theorem m_t1382 : Cond.methodLink RL 215 yX6_back ∈ BIG := big_t 1382 (by decide +kernel) (by decide +kernel)
theorem m_t1383 : Cond.instanceMethod yX6_back ∈ BIG := big_t 1383 (by decide +kernel) (by decide +kernel)
theorem m_t1384 : Cond.selects RX6 yX6_back yX6_back ∈ BIG := big_t 1384 (by decide +kernel) (by decide +kernel)
theorem m_t1385 : Cond.code yX6_back cX6_back 1 (some .int) ∈ BIG := big_t 1385 (by decide +kernel) (by decide +kernel)
theorem m_t1386 : Cond.methodLink RL 219 yX6_status ∈ BIG := big_t 1386 (by decide +kernel) (by decide +kernel)
theorem m_t1387 : Cond.instanceMethod yX6_status ∈ BIG := big_t 1387 (by decide +kernel) (by decide +kernel)
theorem m_t1388 : Cond.selects RX6 yX6_status yX6_status ∈ BIG := big_t 1388 (by decide +kernel) (by decide +kernel)
theorem m_t1389 : Cond.code yX6_status cX6_status 4 (some .int) ∈ BIG := big_t 1389 (by decide +kernel) (by decide +kernel)
theorem m_t1390 : Cond.constantLong RX6 365 12 ∈ BIG := big_t 1390 (by decide +kernel) (by decide +kernel)
theorem m_t1391 : Cond.constantLong RX6 367 16 ∈ BIG := big_t 1391 (by decide +kernel) (by decide +kernel)
theorem m_t1392 : Cond.constantLong RL 18 4294967295 ∈ BIG := big_t 1392 (by decide +kernel) (by decide +kernel)
theorem m_t1393 : Cond.fieldLink RJ0 9 "java/lang/String" "value" "[B" ∈ BIG := big_t 1393 (by decide +kernel) (by decide +kernel)
theorem m_t1394 : Cond.fieldLink RJ0 15 "java/lang/String" "coder" "B" ∈ BIG := big_t 1394 (by decide +kernel) (by decide +kernel)
theorem m_s0 : Cond.selects RX5 yX5_refuse yX5_refuse ∈ BIG := big_s 0 (by decide +kernel) (by decide +kernel)
theorem m_s1 : Cond.selects RX5 yX5_rowFit yX5_rowFit ∈ BIG := big_s 1 (by decide +kernel) (by decide +kernel)
theorem m_s2 : Cond.selects RX5 yX5_copyFit yX5_copyFit ∈ BIG := big_s 2 (by decide +kernel) (by decide +kernel)
theorem m_s3 : Cond.selects RX5 yX5_hasSpan yX5_hasSpan ∈ BIG := big_s 3 (by decide +kernel) (by decide +kernel)
theorem m_s4 : Cond.selects RX5 yX5_ruleFit yX5_ruleFit ∈ BIG := big_s 4 (by decide +kernel) (by decide +kernel)
theorem m_s5 : Cond.selects RX3 yX3_step yX3_step ∈ BIG := big_s 5 (by decide +kernel) (by decide +kernel)
theorem m_s6 : Cond.selects RX3 yX3_sortAt yX3_sortAt ∈ BIG := big_s 6 (by decide +kernel) (by decide +kernel)
theorem m_s7 : Cond.selects RX3 yX3_readStatement yX3_readStatement ∈ BIG := big_s 7 (by decide +kernel) (by decide +kernel)
theorem m_s8 : Cond.selects RX3 yX3_isWord yX3_isWord ∈ BIG := big_s 8 (by decide +kernel) (by decide +kernel)
theorem m_s9 : Cond.selects RX3 yX3_readBook yX3_readBook ∈ BIG := big_s 9 (by decide +kernel) (by decide +kernel)
theorem m_s10 : Cond.selects RX3 yX3_fail yX3_fail ∈ BIG := big_s 10 (by decide +kernel) (by decide +kernel)
theorem m_s11 : Cond.selects RX3 yX3_takeNumber yX3_takeNumber ∈ BIG := big_s 11 (by decide +kernel) (by decide +kernel)
theorem m_s12 : Cond.selects RX3 yX3_numberThere yX3_numberThere ∈ BIG := big_s 12 (by decide +kernel) (by decide +kernel)
theorem m_s13 : Cond.selects RX3 yX3_passes yX3_passes ∈ BIG := big_s 13 (by decide +kernel) (by decide +kernel)
theorem m_s14 : Cond.selects RX3 yX3_readNeed yX3_readNeed ∈ BIG := big_s 14 (by decide +kernel) (by decide +kernel)
theorem m_s15 : Cond.selects RX3 yX3_readOne yX3_readOne ∈ BIG := big_s 15 (by decide +kernel) (by decide +kernel)
theorem m_s16 : Cond.selects RX3 yX3_readKnows yX3_readKnows ∈ BIG := big_s 16 (by decide +kernel) (by decide +kernel)
theorem m_s17 : Cond.selects RX3 yX3_readWhite yX3_readWhite ∈ BIG := big_s 17 (by decide +kernel) (by decide +kernel)
theorem m_s18 : Cond.selects RX5 yX5_isPair yX5_isPair ∈ BIG := big_s 18 (by decide +kernel) (by decide +kernel)
theorem m_s19 : Cond.selects RX5 yX5_readFit yX5_readFit ∈ BIG := big_s 19 (by decide +kernel) (by decide +kernel)
theorem m_s20 : Cond.selects RX4 yX4_forget yX4_forget ∈ BIG := big_s 20 (by decide +kernel) (by decide +kernel)
theorem m_s21 : Cond.selects RX5 yX5_toldFit yX5_toldFit ∈ BIG := big_s 21 (by decide +kernel) (by decide +kernel)
theorem m_s22 : Cond.selects RX5 yX5_firstWrong yX5_firstWrong ∈ BIG := big_s 22 (by decide +kernel) (by decide +kernel)
theorem m_s23 : Cond.selects RX4 yX4_drawBelow20 yX4_drawBelow20 ∈ BIG := big_s 23 (by decide +kernel) (by decide +kernel)
theorem m_s24 : Cond.selects RX6 yX6_refuse yX6_refuse ∈ BIG := big_s 24 (by decide +kernel) (by decide +kernel)
theorem m_s25 : Cond.selects RX6 yX6_noRow yX6_noRow ∈ BIG := big_s 25 (by decide +kernel) (by decide +kernel)
theorem m_s26 : Cond.selects RX6 yX6_fresh yX6_fresh ∈ BIG := big_s 26 (by decide +kernel) (by decide +kernel)
theorem m_s27 : Cond.selects RX6 yX6_takeFrom yX6_takeFrom ∈ BIG := big_s 27 (by decide +kernel) (by decide +kernel)
theorem m_s28 : Cond.selects RX6 yX6_does yX6_does ∈ BIG := big_s 28 (by decide +kernel) (by decide +kernel)
theorem m_s29 : Cond.selects RX6 yX6_readMost yX6_readMost ∈ BIG := big_s 29 (by decide +kernel) (by decide +kernel)
theorem m_s30 : Cond.selects RX6 yX6_thereMany yX6_thereMany ∈ BIG := big_s 30 (by decide +kernel) (by decide +kernel)
theorem m_s31 : Cond.selects RX6 yX6_isThere yX6_isThere ∈ BIG := big_s 31 (by decide +kernel) (by decide +kernel)
theorem m_s32 : Cond.selects RX6 yX6_isWhite yX6_isWhite ∈ BIG := big_s 32 (by decide +kernel) (by decide +kernel)
theorem m_s33 : Cond.selects RX6 yX6_readerOf yX6_readerOf ∈ BIG := big_s 33 (by decide +kernel) (by decide +kernel)
theorem m_s34 : Cond.selects RX6 yX6_wouldKnow yX6_wouldKnow ∈ BIG := big_s 34 (by decide +kernel) (by decide +kernel)
theorem m_s35 : Cond.selects RX6 yX6_byGround yX6_byGround ∈ BIG := big_s 35 (by decide +kernel) (by decide +kernel)
theorem m_s36 : Cond.selects RX6 yX6_groundOf yX6_groundOf ∈ BIG := big_s 36 (by decide +kernel) (by decide +kernel)
theorem m_s37 : Cond.selects RX6 yX6_readsTo yX6_readsTo ∈ BIG := big_s 37 (by decide +kernel) (by decide +kernel)
theorem m_s38 : Cond.selects RX6 yX6_reads yX6_reads ∈ BIG := big_s 38 (by decide +kernel) (by decide +kernel)
theorem m_s39 : Cond.selects RX6 yX6_chain yX6_chain ∈ BIG := big_s 39 (by decide +kernel) (by decide +kernel)
theorem m_s40 : Cond.selects RX6 yX6_youngestBut yX6_youngestBut ∈ BIG := big_s 40 (by decide +kernel) (by decide +kernel)
theorem m_s41 : Cond.selects RX6 yX6_moreBy yX6_moreBy ∈ BIG := big_s 41 (by decide +kernel) (by decide +kernel)
theorem m_s42 : Cond.selects RX6 yX6_valueNow yX6_valueNow ∈ BIG := big_s 42 (by decide +kernel) (by decide +kernel)
theorem m_s43 : Cond.selects RX6 yX6_valueOf yX6_valueOf ∈ BIG := big_s 43 (by decide +kernel) (by decide +kernel)
theorem m_s44 : Cond.selects RX6 yX6_greatest yX6_greatest ∈ BIG := big_s 44 (by decide +kernel) (by decide +kernel)
theorem m_s45 : Cond.selects RX6 yX6_newBook yX6_newBook ∈ BIG := big_s 45 (by decide +kernel) (by decide +kernel)
theorem m_s46 : Cond.selects RX6 yX6_add yX6_add ∈ BIG := big_s 46 (by decide +kernel) (by decide +kernel)
theorem m_s47 : Cond.selects RX6 yX6_newOne yX6_newOne ∈ BIG := big_s 47 (by decide +kernel) (by decide +kernel)
theorem m_s48 : Cond.selects RX6 yX6_readAll yX6_readAll ∈ BIG := big_s 48 (by decide +kernel) (by decide +kernel)
theorem m_s49 : Cond.selects RX6 yX6_look yX6_look ∈ BIG := big_s 49 (by decide +kernel) (by decide +kernel)
theorem m_s50 : Cond.selects RX6 yX6_statement yX6_statement ∈ BIG := big_s 50 (by decide +kernel) (by decide +kernel)
theorem m_s51 : Cond.selects RX6 yX6_isWord yX6_isWord ∈ BIG := big_s 51 (by decide +kernel) (by decide +kernel)
theorem m_s52 : Cond.selects RX6 yX6_tells yX6_tells ∈ BIG := big_s 52 (by decide +kernel) (by decide +kernel)
theorem m_s53 : Cond.selects RX6 yX6_wrong yX6_wrong ∈ BIG := big_s 53 (by decide +kernel) (by decide +kernel)
theorem m_s54 : Cond.selects RX6 yX6_number yX6_number ∈ BIG := big_s 54 (by decide +kernel) (by decide +kernel)
theorem m_s55 : Cond.selects RX6 yX6_perhaps yX6_perhaps ∈ BIG := big_s 55 (by decide +kernel) (by decide +kernel)
theorem m_s56 : Cond.selects RX6 yX6_isBook yX6_isBook ∈ BIG := big_s 56 (by decide +kernel) (by decide +kernel)
theorem m_s57 : Cond.selects RX6 yX6_isOne yX6_isOne ∈ BIG := big_s 57 (by decide +kernel) (by decide +kernel)
theorem m_s58 : Cond.selects RX6 yX6_noReading yX6_noReading ∈ BIG := big_s 58 (by decide +kernel) (by decide +kernel)
theorem m_s59 : Cond.selects RX6 yX6_end yX6_end ∈ BIG := big_s 59 (by decide +kernel) (by decide +kernel)
theorem m_s60 : Cond.selects RX6 yX6_noRule yX6_noRule ∈ BIG := big_s 60 (by decide +kernel) (by decide +kernel)
theorem m_s61 : Cond.selects RX6 yX6_sumOf yX6_sumOf ∈ BIG := big_s 61 (by decide +kernel) (by decide +kernel)
theorem m_s62 : Cond.selects RX6 yX6_goes yX6_goes ∈ BIG := big_s 62 (by decide +kernel) (by decide +kernel)
theorem m_s63 : Cond.selects RX6 yX6_whiteMany yX6_whiteMany ∈ BIG := big_s 63 (by decide +kernel) (by decide +kernel)
theorem m_s64 : Cond.selects RX6 yX6_findWho yX6_findWho ∈ BIG := big_s 64 (by decide +kernel) (by decide +kernel)
theorem m_s65 : Cond.selects RX6 yX6_rowsFrom yX6_rowsFrom ∈ BIG := big_s 65 (by decide +kernel) (by decide +kernel)
theorem m_s66 : Cond.selects RX6 yX6_lostBy yX6_lostBy ∈ BIG := big_s 66 (by decide +kernel) (by decide +kernel)
theorem m_s67 : Cond.selects RX6 yX6_noTold yX6_noTold ∈ BIG := big_s 67 (by decide +kernel) (by decide +kernel)
theorem m_s68 : Cond.selects RX6 yX6_wrongAt yX6_wrongAt ∈ BIG := big_s 68 (by decide +kernel) (by decide +kernel)
theorem m_s69 : Cond.selects RX6 yX6_draw yX6_draw ∈ BIG := big_s 69 (by decide +kernel) (by decide +kernel)
theorem iX_X0 : ∀ w ∈ u_ws RX0 TX0 4, w ∈ BIG := by decide +kernel
theorem iX_X2 : ∀ w ∈ u_ws RX2 TX2 4, w ∈ BIG := by decide +kernel
theorem iX_X3 : ∀ w ∈ u_ws RX3 TX3 7, w ∈ BIG := by decide +kernel
theorem iX_X4 : ∀ w ∈ u_ws RX4 TX4 13, w ∈ BIG := by decide +kernel
theorem iX_X5 : ∀ w ∈ u_ws RX5 TX5 9, w ∈ BIG := by decide +kernel
theorem iX_X6 : ∀ w ∈ u_ws RX6 TX6 35, w ∈ BIG := by decide +kernel
theorem m_nat : Cond.native arraycopyName ∈ BIG := big_t 264 (by decide +kernel) (by decide +kernel)
theorem df_X0 : ∀ j, j < 4 → defaultValue (tyX0 j) = vp_V [.null, .null, .int 0, .int 0] j := fun j hj => by
  match j, hj with
  | 0, _ => rfl
  | 1, _ => rfl
  | 2, _ => rfl
  | 3, _ => rfl
  | k + 4, h => exact absurd h (by omega)
theorem df_X2 : ∀ j, j < 4 → defaultValue (tyX2 j) = vp_V [.null, .null, .null, .null] j := fun j hj => by
  match j, hj with
  | 0, _ => rfl
  | 1, _ => rfl
  | 2, _ => rfl
  | 3, _ => rfl
  | k + 4, h => exact absurd h (by omega)
theorem df_X3 : ∀ j, j < 7 → defaultValue (tyX3 j) = vp_V [.null, .int 0, .int 0, .int 0, .int 0, .int 0, .null] j := fun j hj => by
  match j, hj with
  | 0, _ => rfl
  | 1, _ => rfl
  | 2, _ => rfl
  | 3, _ => rfl
  | 4, _ => rfl
  | 5, _ => rfl
  | 6, _ => rfl
  | k + 7, h => exact absurd h (by omega)
theorem df_X4 : ∀ j, j < 13 → defaultValue (tyX4 j) = vp_V [.int 0, .int 0, .int 0, .int 0, .int 0, .null, .null, .null, .null, .null, .null, .null, .null] j := fun j hj => by
  match j, hj with
  | 0, _ => rfl
  | 1, _ => rfl
  | 2, _ => rfl
  | 3, _ => rfl
  | 4, _ => rfl
  | 5, _ => rfl
  | 6, _ => rfl
  | 7, _ => rfl
  | 8, _ => rfl
  | 9, _ => rfl
  | 10, _ => rfl
  | 11, _ => rfl
  | 12, _ => rfl
  | k + 13, h => exact absurd h (by omega)
theorem df_X5 : ∀ j, j < 9 → defaultValue (tyX5 j) = vp_V [.null, .null, .null, .null, .null, .null, .int 0, .int 0, .int 0] j := fun j hj => by
  match j, hj with
  | 0, _ => rfl
  | 1, _ => rfl
  | 2, _ => rfl
  | 3, _ => rfl
  | 4, _ => rfl
  | 5, _ => rfl
  | 6, _ => rfl
  | 7, _ => rfl
  | 8, _ => rfl
  | k + 9, h => exact absurd h (by omega)
theorem df_X6 : ∀ j, j < 35 → defaultValue (tyX6 j) = vp_V [.null, .null, .null, .null, .null, .null, .null, .null, .int 0, .null, .int 0, .null, .int 0, .null, .null, .int 0, .int 0, .int 0, .null, .null, .int 0, .int 0, .int 0, .long 0, .int 0, .null, .int 0, .int 0, .int 0, .null, .null, .null, .null, .null, .int 0] j := fun j hj => by
  match j, hj with
  | 0, _ => rfl
  | 1, _ => rfl
  | 2, _ => rfl
  | 3, _ => rfl
  | 4, _ => rfl
  | 5, _ => rfl
  | 6, _ => rfl
  | 7, _ => rfl
  | 8, _ => rfl
  | 9, _ => rfl
  | 10, _ => rfl
  | 11, _ => rfl
  | 12, _ => rfl
  | 13, _ => rfl
  | 14, _ => rfl
  | 15, _ => rfl
  | 16, _ => rfl
  | 17, _ => rfl
  | 18, _ => rfl
  | 19, _ => rfl
  | 20, _ => rfl
  | 21, _ => rfl
  | 22, _ => rfl
  | 23, _ => rfl
  | 24, _ => rfl
  | 25, _ => rfl
  | 26, _ => rfl
  | 27, _ => rfl
  | 28, _ => rfl
  | 29, _ => rfl
  | 30, _ => rfl
  | 31, _ => rfl
  | 32, _ => rfl
  | 33, _ => rfl
  | 34, _ => rfl
  | k + 35, h => exact absurd h (by omega)
end
section
theorem L_X0_11 : LkIN RX0 11 yX4_init cX4_init 1 0 := ⟨List.mem_of_getElem? (i := 2) (by decide +kernel), m_t2, m_t27, ⟨by decide +kernel, by decide +kernel, by decide +kernel⟩, rfl, m_t26⟩
theorem L_X0_21 : LkV RX0 21 RX4 yX4_become cX4_become 2 none 1 := ⟨m_t306, m_t2, m_t309, ⟨by decide +kernel, by decide +kernel, by decide +kernel⟩, m_t307, m_t308⟩
theorem L_X0_25 : LkV RX0 25 RX4 yX4_setThere cX4_setThere 1 (some .int) 0 := ⟨m_t650, m_t2, m_t357, ⟨by decide +kernel, by decide +kernel, by decide +kernel⟩, m_t355, m_t356⟩
theorem L_X0_33 : LkS RX0 33 yX1_act cX1_act 3 (some .int) 3 := ⟨m_t651, m_t8, m_t313, ⟨by decide +kernel, by decide +kernel, by decide +kernel⟩, m_t312⟩
theorem L_X0_39 : LkV RX0 39 RX4 yX4_worthNow cX4_worthNow 1 (some .int) 0 := ⟨m_t652, m_t2, m_t388, ⟨by decide +kernel, by decide +kernel, by decide +kernel⟩, m_t386, m_t387⟩
theorem L_X0_42 : LkV RX0 42 RX4 yX4_endYear cX4_endYear 3 (some .int) 0 := ⟨m_t653, m_t2, m_t656, ⟨by decide +kernel, by decide +kernel, by decide +kernel⟩, m_t654, m_t655⟩
theorem L_X0_45 : LkV RX0 45 RX4 yX4_worthAmong cX4_worthAmong 4 (some .int) 1 := ⟨m_t686, m_t2, m_t392, ⟨by decide +kernel, by decide +kernel, by decide +kernel⟩, m_t390, m_t391⟩
theorem L_X0_52 : LkSN RX0 52 yX5_has cX5_has 2 (some .boolean) 2 := ⟨List.mem_of_getElem? (i := 8) (by decide +kernel), m_t1, m_t323, ⟨by decide +kernel, by decide +kernel, by decide +kernel⟩, m_t322⟩
theorem L_X0_56 : LkV RX0 56 RX4 yX4_readBy cX4_readBy 3 none 2 := ⟨m_t682, m_t2, m_t349, ⟨by decide +kernel, by decide +kernel, by decide +kernel⟩, m_t347, m_t348⟩
theorem L_X0_60 : LkS RX0 60 yX0_sumOfRest cX0_sumOfRest 4 (some .int) 2 := ⟨m_t683, m_t3, m_t685, ⟨by decide +kernel, by decide +kernel, by decide +kernel⟩, m_t684⟩
theorem L_X0_67 : LkV RX0 67 RX0 yX0_bestWho cX0_bestWho 7 (some .int) 3 := ⟨m_t710, m_t3, m_t680, ⟨by decide +kernel, by decide +kernel, by decide +kernel⟩, m_t678, m_t679⟩
theorem L_X1_9 : LkS RX1 9 yX1_readDearest cX1_readDearest 7 (some .int) 3 := ⟨m_t314, m_t8, m_t316, ⟨by decide +kernel, by decide +kernel, by decide +kernel⟩, m_t315⟩
theorem L_X1_15 : LkS RX1 15 yX1_tellChain cX1_tellChain 4 none 1 := ⟨m_t366, m_t8, m_t368, ⟨by decide +kernel, by decide +kernel, by decide +kernel⟩, m_t367⟩
theorem L_X1_19 : LkV RX1 19 RX4 yX4_dearestUnread cX4_dearestUnread 3 (some .int) 0 := ⟨m_t317, m_t2, m_t320, ⟨by decide +kernel, by decide +kernel, by decide +kernel⟩, m_t318, m_t319⟩
theorem L_X1_25 : LkV RX1 25 RX4 yX4_bestReader cX4_bestReader 6 (some .int) 1 := ⟨m_t324, m_t2, m_t327, ⟨by decide +kernel, by decide +kernel, by decide +kernel⟩, m_t325, m_t326⟩
theorem L_X1_29 : LkV RX1 29 RX4 yX4_readBy cX4_readBy 3 none 2 := ⟨m_t346, m_t2, m_t349, ⟨by decide +kernel, by decide +kernel, by decide +kernel⟩, m_t347, m_t348⟩
theorem L_X1_33 : LkV RX1 33 RX4 yX4_setThere cX4_setThere 1 (some .int) 0 := ⟨m_t354, m_t2, m_t357, ⟨by decide +kernel, by decide +kernel, by decide +kernel⟩, m_t355, m_t356⟩
theorem L_X1_36 : LkV RX1 36 RX4 yX4_hearFrom cX4_hearFrom 9 (some .int) 3 := ⟨m_t361, m_t2, m_t364, ⟨by decide +kernel, by decide +kernel, by decide +kernel⟩, m_t362, m_t363⟩
theorem L_X1_47 : LkSN RX1 47 yX5_has cX5_has 2 (some .boolean) 2 := ⟨List.mem_of_getElem? (i := 7) (by decide +kernel), m_t1, m_t323, ⟨by decide +kernel, by decide +kernel, by decide +kernel⟩, m_t322⟩
theorem L_X1_51 : LkV RX1 51 RX4 yX4_youngestBut cX4_youngestBut 4 (some .int) 1 := ⟨m_t370, m_t2, m_t373, ⟨by decide +kernel, by decide +kernel, by decide +kernel⟩, m_t371, m_t372⟩
theorem L_X1_57 : LkV RX1 57 RX4 yX4_tellTo cX4_tellTo 4 none 3 := ⟨m_t374, m_t2, m_t377, ⟨by decide +kernel, by decide +kernel, by decide +kernel⟩, m_t375, m_t376⟩
theorem L_X2_25 : LkS RX2 25 yX2_lowestBits cX2_lowestBits 3 (some .long) 2 := ⟨m_t243, m_t4, m_t245, ⟨by decide +kernel, by decide +kernel, by decide +kernel⟩, m_t244⟩
theorem L_X3_17 : LkIN RX3 17 yX4_init cX4_init 1 0 := ⟨List.mem_of_getElem? (i := 4) (by decide +kernel), m_t2, m_t27, ⟨by decide +kernel, by decide +kernel, by decide +kernel⟩, rfl, m_t26⟩
theorem L_X3_26 : LkV RX3 26 RX4 yX4_become cX4_become 2 none 1 := ⟨m_t446, m_t2, m_t309, ⟨by decide +kernel, by decide +kernel, by decide +kernel⟩, m_t307, m_t308⟩
theorem L_X3_36 : LkV RX3 36 RX3 yX3_step cX3_step 2 none 0 := ⟨m_t447, m_t5, m_t450, ⟨by decide +kernel, by decide +kernel, by decide +kernel⟩, m_t449, m_s5⟩
theorem L_X3_39 : LkV RX3 39 RX3 yX3_readStatement cX3_readStatement 1 none 0 := ⟨m_t455, m_t5, m_t458, ⟨by decide +kernel, by decide +kernel, by decide +kernel⟩, m_t457, m_s7⟩
theorem L_X3_45 : LkV RX3 45 RX3 yX3_fail cX3_fail 1 none 0 := ⟨m_t516, m_t5, m_t519, ⟨by decide +kernel, by decide +kernel, by decide +kernel⟩, m_t518, m_s10⟩
theorem L_X3_50 : LkV RX3 50 RX3 yX3_isWord cX3_isWord 3 (some .boolean) 1 := ⟨m_t460, m_t5, m_t463, ⟨by decide +kernel, by decide +kernel, by decide +kernel⟩, m_t462, m_s8⟩
theorem L_X3_54 : LkV RX3 54 RX3 yX3_readBook cX3_readBook 3 none 0 := ⟨m_t512, m_t5, m_t515, ⟨by decide +kernel, by decide +kernel, by decide +kernel⟩, m_t514, m_s9⟩
theorem L_X3_59 : LkV RX3 59 RX3 yX3_readNeed cX3_readNeed 3 none 0 := ⟨m_t535, m_t5, m_t538, ⟨by decide +kernel, by decide +kernel, by decide +kernel⟩, m_t537, m_s14⟩
theorem L_X3_64 : LkV RX3 64 RX3 yX3_readOne cX3_readOne 5 none 0 := ⟨m_t540, m_t5, m_t543, ⟨by decide +kernel, by decide +kernel, by decide +kernel⟩, m_t542, m_s15⟩
theorem L_X3_69 : LkV RX3 69 RX3 yX3_readKnows cX3_readKnows 4 none 0 := ⟨m_t549, m_t5, m_t552, ⟨by decide +kernel, by decide +kernel, by decide +kernel⟩, m_t551, m_s16⟩
theorem L_X3_74 : LkV RX3 74 RX3 yX3_readWhite cX3_readWhite 2 none 0 := ⟨m_t555, m_t5, m_t558, ⟨by decide +kernel, by decide +kernel, by decide +kernel⟩, m_t557, m_s17⟩
theorem L_X3_80 : LkV RX3 80 RX3 yX3_takeNumber cX3_takeNumber 4 (some .int) 2 := ⟨m_t520, m_t5, m_t523, ⟨by decide +kernel, by decide +kernel, by decide +kernel⟩, m_t522, m_s11⟩
theorem L_X3_86 : LkV RX3 86 RX3 yX3_passes cX3_passes 2 (some .boolean) 1 := ⟨m_t529, m_t5, m_t532, ⟨by decide +kernel, by decide +kernel, by decide +kernel⟩, m_t531, m_s13⟩
theorem L_X3_92 : LkV RX3 92 RX4 yX4_addBook cX4_addBook 4 (some .int) 2 := ⟨m_t533, m_t2, m_t408, ⟨by decide +kernel, by decide +kernel, by decide +kernel⟩, m_t406, m_t407⟩
theorem L_X3_107 : LkV RX3 107 RX4 yX4_addOne cX4_addOne 6 (some .int) 4 := ⟨m_t547, m_t2, m_t421, ⟨by decide +kernel, by decide +kernel, by decide +kernel⟩, m_t419, m_t420⟩
theorem L_X3_111 : LkV RX3 111 RX4 yX4_learn cX4_learn 4 none 3 := ⟨m_t553, m_t2, m_t353, ⟨by decide +kernel, by decide +kernel, by decide +kernel⟩, m_t351, m_t352⟩
theorem L_X3_117 : LkV RX3 117 RX3 yX3_numberThere cX3_numberThere 3 (some .int) 0 := ⟨m_t524, m_t5, m_t527, ⟨by decide +kernel, by decide +kernel, by decide +kernel⟩, m_t526, m_s12⟩
theorem L_X3_124 : LkV RX3 124 RJ0 yJ0_length_8abf5 cJ0_length_8abf5 1 (some .int) 0 := ⟨m_t464, m_t10, m_t467, ⟨by decide +kernel, by decide +kernel, by decide +kernel⟩, m_t465, m_t466⟩
theorem L_X3_129 : LkV RX3 129 RJ0 yJ0_charAt_5068e cJ0_charAt_5068e 2 (some .char) 1 := ⟨m_t474, m_t10, m_t477, ⟨by decide +kernel, by decide +kernel, by decide +kernel⟩, m_t475, m_t476⟩
theorem L_X3_133 : LkV RX3 133 RX3 yX3_sortAt cX3_sortAt 3 (some .int) 1 := ⟨m_t451, m_t5, m_t454, ⟨by decide +kernel, by decide +kernel, by decide +kernel⟩, m_t453, m_s6⟩
theorem L_X4_58 : LkSN RX4 58 yX5_setOfAll cX5_setOfAll 1 (some .int) 1 := ⟨List.mem_of_getElem? (i := 6) (by decide +kernel), m_t1, m_t360, ⟨by decide +kernel, by decide +kernel, by decide +kernel⟩, m_t359⟩
theorem L_X4_62 : LkSN RX4 62 yX5_has cX5_has 2 (some .boolean) 2 := ⟨List.mem_of_getElem? (i := 5) (by decide +kernel), m_t1, m_t323, ⟨by decide +kernel, by decide +kernel, by decide +kernel⟩, m_t322⟩
theorem L_X4_66 : LkV RX4 66 RX4 yX4_knows cX4_knows 3 (some .int) 2 := ⟨m_t339, m_t2, m_t342, ⟨by decide +kernel, by decide +kernel, by decide +kernel⟩, m_t340, m_t341⟩
theorem L_X4_70 : LkS RX4 70 yJ9_max_7cf53 cJ9_max_7cf53 2 (some .int) 2 := ⟨m_t343, m_t9, m_t345, ⟨by decide +kernel, by decide +kernel, by decide +kernel⟩, m_t344⟩
theorem L_X4_75 : LkV RX4 75 RX4 yX4_mostKnown cX4_mostKnown 5 (some .int) 2 := ⟨m_t393, m_t2, m_t396, ⟨by decide +kernel, by decide +kernel, by decide +kernel⟩, m_t394, m_t395⟩
theorem L_X4_78 : LkV RX4 78 RX4 yX4_setThere cX4_setThere 1 (some .int) 0 := ⟨m_t365, m_t2, m_t357, ⟨by decide +kernel, by decide +kernel, by decide +kernel⟩, m_t355, m_t356⟩
theorem L_X4_82 : LkV RX4 82 RX4 yX4_worthAmong cX4_worthAmong 4 (some .int) 1 := ⟨m_t389, m_t2, m_t392, ⟨by decide +kernel, by decide +kernel, by decide +kernel⟩, m_t390, m_t391⟩
theorem L_X4_85 : LkV RX4 85 RX4 yX4_groundOf cX4_groundOf 5 (some .int) 2 := ⟨m_t332, m_t2, m_t335, ⟨by decide +kernel, by decide +kernel, by decide +kernel⟩, m_t333, m_t334⟩
theorem L_X4_88 : LkS RX4 88 yX4_grasped cX4_grasped 2 (some .int) 2 := ⟨m_t336, m_t2, m_t338, ⟨by decide +kernel, by decide +kernel, by decide +kernel⟩, m_t337⟩
theorem L_X4_91 : LkV RX4 91 RX4 yX4_wouldKnow cX4_wouldKnow 4 (some .int) 2 := ⟨m_t328, m_t2, m_t331, ⟨by decide +kernel, by decide +kernel, by decide +kernel⟩, m_t329, m_t330⟩
theorem L_X4_94 : LkV RX4 94 RX4 yX4_learn cX4_learn 4 none 3 := ⟨m_t350, m_t2, m_t353, ⟨by decide +kernel, by decide +kernel, by decide +kernel⟩, m_t351, m_t352⟩
theorem L_X4_98 : LkS RX4 98 yX4_afterTelling cX4_afterTelling 2 (some .int) 2 := ⟨m_t382, m_t2, m_t384, ⟨by decide +kernel, by decide +kernel, by decide +kernel⟩, m_t383⟩
theorem L_X4_101 : LkV RX4 101 RX4 yX4_gainByTelling cX4_gainByTelling 4 (some .int) 3 := ⟨m_t378, m_t2, m_t381, ⟨by decide +kernel, by decide +kernel, by decide +kernel⟩, m_t379, m_t380⟩
theorem L_X4_105 : LkV RX4 105 RX4 yX4_bestReader cX4_bestReader 6 (some .int) 1 := ⟨m_t770, m_t2, m_t327, ⟨by decide +kernel, by decide +kernel, by decide +kernel⟩, m_t325, m_t326⟩
theorem L_X4_108 : LkV RX4 108 RX4 yX4_allNeededBy cX4_allNeededBy 4 (some .int) 1 := ⟨m_t757, m_t2, m_t760, ⟨by decide +kernel, by decide +kernel, by decide +kernel⟩, m_t758, m_t759⟩
theorem L_X4_111 : LkV RX4 111 RX4 yX4_forget cX4_forget 4 none 1 := ⟨m_t657, m_t2, m_t660, ⟨by decide +kernel, by decide +kernel, by decide +kernel⟩, m_t659, m_s20⟩
theorem L_X4_115 : LkS RX4 115 yJ6_bitCount_0f7a4 cJ6_bitCount_0f7a4 1 (some .int) 1 := ⟨m_t661, m_t14, m_t663, ⟨by decide +kernel, by decide +kernel, by decide +kernel⟩, m_t662⟩
theorem L_X4_120 : LkV RX4 120 RX4 yX4_drawBelow20 cX4_drawBelow20 1 (some .int) 0 := ⟨m_t806, m_t2, m_t809, ⟨by decide +kernel, by decide +kernel, by decide +kernel⟩, m_t808, m_s23⟩
theorem L_X5_9 : LkIN RX5 9 yX4_init cX4_init 1 0 := ⟨List.mem_of_getElem? (i := 0) (by decide +kernel), m_t2, m_t27, ⟨by decide +kernel, by decide +kernel, by decide +kernel⟩, rfl, m_t26⟩
theorem L_X5_21 : LkIN RX5 21 yX0_init cX0_init 1 0 := ⟨List.mem_of_getElem? (i := 1) (by decide +kernel), m_t3, m_t97, ⟨by decide +kernel, by decide +kernel, by decide +kernel⟩, rfl, m_t96⟩
theorem L_X5_28 : LkI RX5 28 yX2_init cX2_init 2 0 := ⟨m_t119, m_t4, m_t121, ⟨by decide +kernel, by decide +kernel, by decide +kernel⟩, rfl, m_t120⟩
theorem L_X5_35 : LkIN RX5 35 yX3_init cX3_init 1 0 := ⟨List.mem_of_getElem? (i := 3) (by decide +kernel), m_t5, m_t144, ⟨by decide +kernel, by decide +kernel, by decide +kernel⟩, rfl, m_t143⟩
theorem L_X5_44 : LkS RX5 44 yX5_isShelf cX5_isShelf 1 (some .boolean) 1 := ⟨m_t206, m_t1, m_t208, ⟨by decide +kernel, by decide +kernel, by decide +kernel⟩, m_t207⟩
theorem L_X5_50 : LkS RX5 50 yX5_within cX5_within 6 (some .boolean) 3 := ⟨m_t210, m_t1, m_t212, ⟨by decide +kernel, by decide +kernel, by decide +kernel⟩, m_t211⟩
theorem L_X5_56 : LkV RX5 56 RX5 yX5_refuse cX5_refuse 3 (some .int) 1 := ⟨m_t215, m_t1, m_t218, ⟨by decide +kernel, by decide +kernel, by decide +kernel⟩, m_t217, m_s0⟩
theorem L_X5_60 : LkV RX5 60 RX2 yX2_putRow cX2_putRow 5 none 3 := ⟨m_t219, m_t4, m_t222, ⟨by decide +kernel, by decide +kernel, by decide +kernel⟩, m_t220, m_t221⟩
theorem L_X5_64 : LkV RX5 64 RX5 yX5_rowFit cX5_rowFit 2 (some .int) 1 := ⟨m_t227, m_t1, m_t230, ⟨by decide +kernel, by decide +kernel, by decide +kernel⟩, m_t229, m_s1⟩
theorem L_X5_70 : LkV RX5 70 RX2 yX2_put cX2_put 5 none 3 := ⟨m_t239, m_t4, m_t242, ⟨by decide +kernel, by decide +kernel, by decide +kernel⟩, m_t240, m_t241⟩
theorem L_X5_74 : LkV RX5 74 RX5 yX5_copyFit cX5_copyFit 3 (some .int) 2 := ⟨m_t250, m_t1, m_t253, ⟨by decide +kernel, by decide +kernel, by decide +kernel⟩, m_t252, m_s2⟩
theorem L_X5_78 : LkV RX5 78 RX5 yX5_hasSpan cX5_hasSpan 4 (some .boolean) 3 := ⟨m_t254, m_t1, m_t257, ⟨by decide +kernel, by decide +kernel, by decide +kernel⟩, m_t256, m_s3⟩
theorem L_X5_82 : LkV RX5 82 RX2 yX2_move cX2_move 6 none 5 := ⟨m_t258, m_t4, m_t261, ⟨by decide +kernel, by decide +kernel, by decide +kernel⟩, m_t259, m_t260⟩
theorem L_X5_86 : LkV RX5 86 RX2 yX2_at cX2_at 3 (some .long) 2 := ⟨m_t269, m_t4, m_t272, ⟨by decide +kernel, by decide +kernel, by decide +kernel⟩, m_t270, m_t271⟩
theorem L_X5_97 : LkV RX5 97 RX2 yX2_putRule cX2_putRule 4 none 3 := ⟨m_t283, m_t4, m_t286, ⟨by decide +kernel, by decide +kernel, by decide +kernel⟩, m_t284, m_t285⟩
theorem L_X5_100 : LkV RX5 100 RX5 yX5_ruleFit cX5_ruleFit 2 (some .int) 1 := ⟨m_t291, m_t1, m_t294, ⟨by decide +kernel, by decide +kernel, by decide +kernel⟩, m_t293, m_s4⟩
theorem L_X5_103 : LkV RX5 103 RX2 yX2_kindIn cX2_kindIn 2 (some .int) 1 := ⟨m_t295, m_t4, m_t298, ⟨by decide +kernel, by decide +kernel, by decide +kernel⟩, m_t296, m_t297⟩
theorem L_X5_106 : LkS RX5 106 yX1_isUnder cX1_isUnder 2 (some .boolean) 2 := ⟨m_t299, m_t8, m_t301, ⟨by decide +kernel, by decide +kernel, by decide +kernel⟩, m_t300⟩
theorem L_X5_115 : LkV RX5 115 RX0 yX0_trialOf cX0_trialOf 2 (some (.object "EachBookOnce$Town")) 1 := ⟨m_t302, m_t3, m_t305, ⟨by decide +kernel, by decide +kernel, by decide +kernel⟩, m_t303, m_t304⟩
theorem L_X5_119 : LkS RX5 119 yX1_act cX1_act 3 (some .int) 3 := ⟨m_t311, m_t8, m_t313, ⟨by decide +kernel, by decide +kernel, by decide +kernel⟩, m_t312⟩
theorem L_X5_123 : LkV RX5 123 RX4 yX4_worthNow cX4_worthNow 1 (some .int) 0 := ⟨m_t385, m_t2, m_t388, ⟨by decide +kernel, by decide +kernel, by decide +kernel⟩, m_t386, m_t387⟩
theorem L_X5_131 : LkS RX5 131 yX5_isSetOf cX5_isSetOf 2 (some .boolean) 2 := ⟨m_t401, m_t1, m_t403, ⟨by decide +kernel, by decide +kernel, by decide +kernel⟩, m_t402⟩
theorem L_X5_134 : LkV RX5 134 RX4 yX4_addBook cX4_addBook 4 (some .int) 2 := ⟨m_t405, m_t2, m_t408, ⟨by decide +kernel, by decide +kernel, by decide +kernel⟩, m_t406, m_t407⟩
theorem L_X5_137 : LkS RX5 137 yX5_canBeOne cX5_canBeOne 8 (some .boolean) 4 := ⟨m_t413, m_t1, m_t415, ⟨by decide +kernel, by decide +kernel, by decide +kernel⟩, m_t414⟩
theorem L_X5_144 : LkV RX5 144 RX4 yX4_addOne cX4_addOne 6 (some .int) 4 := ⟨m_t418, m_t2, m_t421, ⟨by decide +kernel, by decide +kernel, by decide +kernel⟩, m_t419, m_t420⟩
theorem L_X5_150 : LkV RX5 150 RX3 yX3_append cX3_append 2 none 1 := ⟨m_t430, m_t5, m_t433, ⟨by decide +kernel, by decide +kernel, by decide +kernel⟩, m_t431, m_t432⟩
theorem L_X5_154 : LkV RX5 154 RX3 yX3_readFrom cX3_readFrom 3 (some .int) 1 := ⟨m_t442, m_t5, m_t445, ⟨by decide +kernel, by decide +kernel, by decide +kernel⟩, m_t443, m_t444⟩
theorem L_X5_164 : LkV RX5 164 RX4 yX4_become cX4_become 2 none 1 := ⟨m_t559, m_t2, m_t309, ⟨by decide +kernel, by decide +kernel, by decide +kernel⟩, m_t307, m_t308⟩
theorem L_X5_168 : LkV RX5 168 RX4 yX4_isBook cX4_isBook 2 (some .boolean) 1 := ⟨m_t564, m_t2, m_t567, ⟨by decide +kernel, by decide +kernel, by decide +kernel⟩, m_t565, m_t566⟩
theorem L_X5_183 : LkS RX5 183 yX5_has cX5_has 2 (some .boolean) 2 := ⟨m_t568, m_t1, m_t323, ⟨by decide +kernel, by decide +kernel, by decide +kernel⟩, m_t322⟩
theorem L_X5_186 : LkS RX5 186 yX5_setOfAll cX5_setOfAll 1 (some .int) 1 := ⟨m_t404, m_t1, m_t360, ⟨by decide +kernel, by decide +kernel, by decide +kernel⟩, m_t359⟩
theorem L_X5_189 : LkV RX5 189 RX4 yX4_mostKnown cX4_mostKnown 5 (some .int) 2 := ⟨m_t569, m_t2, m_t396, ⟨by decide +kernel, by decide +kernel, by decide +kernel⟩, m_t394, m_t395⟩
theorem L_X5_192 : LkV RX5 192 RX4 yX4_isOne cX4_isOne 2 (some .boolean) 1 := ⟨m_t574, m_t2, m_t577, ⟨by decide +kernel, by decide +kernel, by decide +kernel⟩, m_t575, m_t576⟩
theorem L_X5_210 : LkV RX5 210 RX5 yX5_isPair cX5_isPair 3 (some .boolean) 2 := ⟨m_t582, m_t1, m_t585, ⟨by decide +kernel, by decide +kernel, by decide +kernel⟩, m_t584, m_s18⟩
theorem L_X5_213 : LkV RX5 213 RX4 yX4_knows cX4_knows 3 (some .int) 2 := ⟨m_t586, m_t2, m_t342, ⟨by decide +kernel, by decide +kernel, by decide +kernel⟩, m_t340, m_t341⟩
theorem L_X5_218 : LkV RX5 218 RX4 yX4_learn cX4_learn 4 none 3 := ⟨m_t592, m_t2, m_t353, ⟨by decide +kernel, by decide +kernel, by decide +kernel⟩, m_t351, m_t352⟩
theorem L_X5_221 : LkV RX5 221 RX4 yX4_groundOf cX4_groundOf 5 (some .int) 2 := ⟨m_t597, m_t2, m_t335, ⟨by decide +kernel, by decide +kernel, by decide +kernel⟩, m_t333, m_t334⟩
theorem L_X5_224 : LkV RX5 224 RX5 yX5_readFit cX5_readFit 3 (some .int) 2 := ⟨m_t602, m_t1, m_t605, ⟨by decide +kernel, by decide +kernel, by decide +kernel⟩, m_t604, m_s19⟩
theorem L_X5_227 : LkV RX5 227 RX4 yX4_wouldKnow cX4_wouldKnow 4 (some .int) 2 := ⟨m_t606, m_t2, m_t331, ⟨by decide +kernel, by decide +kernel, by decide +kernel⟩, m_t329, m_t330⟩
theorem L_X5_230 : LkV RX5 230 RX4 yX4_readBy cX4_readBy 3 none 2 := ⟨m_t611, m_t2, m_t349, ⟨by decide +kernel, by decide +kernel, by decide +kernel⟩, m_t347, m_t348⟩
theorem L_X5_234 : LkV RX5 234 RX4 yX4_hearFrom cX4_hearFrom 9 (some .int) 3 := ⟨m_t616, m_t2, m_t364, ⟨by decide +kernel, by decide +kernel, by decide +kernel⟩, m_t362, m_t363⟩
theorem L_X5_238 : LkV RX5 238 RX4 yX4_gainByTelling cX4_gainByTelling 4 (some .int) 3 := ⟨m_t621, m_t2, m_t381, ⟨by decide +kernel, by decide +kernel, by decide +kernel⟩, m_t379, m_t380⟩
theorem L_X5_241 : LkV RX5 241 RX4 yX4_tellTo cX4_tellTo 4 none 3 := ⟨m_t622, m_t2, m_t377, ⟨by decide +kernel, by decide +kernel, by decide +kernel⟩, m_t375, m_t376⟩
theorem L_X5_244 : LkV RX5 244 RX4 yX4_writeBy cX4_writeBy 3 (some .int) 2 := ⟨m_t627, m_t2, m_t630, ⟨by decide +kernel, by decide +kernel, by decide +kernel⟩, m_t628, m_t629⟩
theorem L_X5_247 : LkV RX5 247 RX4 yX4_bestReader cX4_bestReader 6 (some .int) 1 := ⟨m_t639, m_t2, m_t327, ⟨by decide +kernel, by decide +kernel, by decide +kernel⟩, m_t325, m_t326⟩
theorem L_X5_254 : LkV RX5 254 RX0 yX0_sumOfRun cX0_sumOfRun 7 (some .int) 4 := ⟨m_t646, m_t3, m_t649, ⟨by decide +kernel, by decide +kernel, by decide +kernel⟩, m_t647, m_t648⟩
theorem L_X5_264 : LkS RX5 264 yJ6_bitCount_0f7a4 cJ6_bitCount_0f7a4 1 (some .int) 1 := ⟨m_t667, m_t14, m_t663, ⟨by decide +kernel, by decide +kernel, by decide +kernel⟩, m_t662⟩
theorem L_X5_269 : LkV RX5 269 RX4 yX4_setThere cX4_setThere 1 (some .int) 0 := ⟨m_t668, m_t2, m_t357, ⟨by decide +kernel, by decide +kernel, by decide +kernel⟩, m_t355, m_t356⟩
theorem L_X5_272 : LkV RX5 272 RX0 yX0_bestWho cX0_bestWho 7 (some .int) 3 := ⟨m_t677, m_t3, m_t680, ⟨by decide +kernel, by decide +kernel, by decide +kernel⟩, m_t678, m_t679⟩
theorem L_X5_277 : LkV RX5 277 RX0 yX0_worthByRising cX0_worthByRising 4 (some .int) 2 := ⟨m_t692, m_t3, m_t695, ⟨by decide +kernel, by decide +kernel, by decide +kernel⟩, m_t693, m_t694⟩
theorem L_X5_281 : LkV RX5 281 RX4 yX4_unreadAt cX4_unreadAt 4 (some .int) 1 := ⟨m_t696, m_t2, m_t699, ⟨by decide +kernel, by decide +kernel, by decide +kernel⟩, m_t697, m_t698⟩
theorem L_X5_287 : LkV RX5 287 RX0 yX0_findKeeping cX0_findKeeping 6 (some .boolean) 3 := ⟨m_t706, m_t3, m_t709, ⟨by decide +kernel, by decide +kernel, by decide +kernel⟩, m_t707, m_t708⟩
theorem L_X5_294 : LkS RX5 294 yX5_canBeTold cX5_canBeTold 2 (some .boolean) 2 := ⟨m_t715, m_t1, m_t717, ⟨by decide +kernel, by decide +kernel, by decide +kernel⟩, m_t716⟩
theorem L_X5_297 : LkS RX5 297 yX4_afterTelling cX4_afterTelling 2 (some .int) 2 := ⟨m_t718, m_t2, m_t384, ⟨by decide +kernel, by decide +kernel, by decide +kernel⟩, m_t383⟩
theorem L_X5_300 : LkV RX5 300 RX4 yX4_worthAmong cX4_worthAmong 4 (some .int) 1 := ⟨m_t727, m_t2, m_t392, ⟨by decide +kernel, by decide +kernel, by decide +kernel⟩, m_t390, m_t391⟩
theorem L_X5_303 : LkV RX5 303 RX4 yX4_booksKnown cX4_booksKnown 5 (some .int) 2 := ⟨m_t732, m_t2, m_t735, ⟨by decide +kernel, by decide +kernel, by decide +kernel⟩, m_t733, m_t734⟩
theorem L_X5_306 : LkV RX5 306 RX4 yX4_youngestBut cX4_youngestBut 4 (some .int) 1 := ⟨m_t744, m_t2, m_t373, ⟨by decide +kernel, by decide +kernel, by decide +kernel⟩, m_t371, m_t372⟩
theorem L_X5_309 : LkV RX5 309 RX4 yX4_allThatNeed cX4_allThatNeed 4 (some .int) 1 := ⟨m_t753, m_t2, m_t756, ⟨by decide +kernel, by decide +kernel, by decide +kernel⟩, m_t754, m_t755⟩
theorem L_X5_312 : LkV RX5 312 RX4 yX4_allNeededBy cX4_allNeededBy 4 (some .int) 1 := ⟨m_t761, m_t2, m_t760, ⟨by decide +kernel, by decide +kernel, by decide +kernel⟩, m_t758, m_t759⟩
theorem L_X5_315 : LkV RX5 315 RX4 yX4_gainByReading cX4_gainByReading 3 (some .int) 1 := ⟨m_t766, m_t2, m_t769, ⟨by decide +kernel, by decide +kernel, by decide +kernel⟩, m_t767, m_t768⟩
theorem L_X5_318 : LkS RX5 318 yX0_sumOfRest cX0_sumOfRest 4 (some .int) 2 := ⟨m_t779, m_t3, m_t685, ⟨by decide +kernel, by decide +kernel, by decide +kernel⟩, m_t684⟩
theorem L_X5_321 : LkV RX5 321 RX5 yX5_toldFit cX5_toldFit 4 (some .int) 2 := ⟨m_t784, m_t1, m_t787, ⟨by decide +kernel, by decide +kernel, by decide +kernel⟩, m_t786, m_s21⟩
theorem L_X5_324 : LkV RX5 324 RX5 yX5_firstWrong cX5_firstWrong 9 (some .int) 2 := ⟨m_t789, m_t1, m_t792, ⟨by decide +kernel, by decide +kernel, by decide +kernel⟩, m_t791, m_s22⟩
theorem L_X5_329 : LkV RX5 329 RX4 yX4_drawDeaths cX4_drawDeaths 2 none 0 := ⟨m_t802, m_t2, m_t805, ⟨by decide +kernel, by decide +kernel, by decide +kernel⟩, m_t803, m_t804⟩
theorem L_X5_332 : LkV RX5 332 RX4 yX4_endYear cX4_endYear 3 (some .int) 0 := ⟨m_t811, m_t2, m_t656, ⟨by decide +kernel, by decide +kernel, by decide +kernel⟩, m_t654, m_t655⟩
theorem L_X5_352 : LkV RX5 352 RX2 yX2_countHolding cX2_countHolding 3 (some .int) 0 := ⟨m_t834, m_t4, m_t837, ⟨by decide +kernel, by decide +kernel, by decide +kernel⟩, m_t835, m_t836⟩
theorem L_X5_361 : LkV RX5 361 RX2 yX2_hasRule cX2_hasRule 2 (some .boolean) 1 := ⟨m_t231, m_t4, m_t234, ⟨by decide +kernel, by decide +kernel, by decide +kernel⟩, m_t232, m_t233⟩
theorem L_X5_364 : LkV RX5 364 RX2 yX2_hasRow cX2_hasRow 2 (some .boolean) 1 := ⟨m_t235, m_t4, m_t238, ⟨by decide +kernel, by decide +kernel, by decide +kernel⟩, m_t236, m_t237⟩
theorem L_X6_74 : LkS RX6 74 yX6_in cX6_in 6 (some .boolean) 3 := ⟨m_t961, m_t6, m_t963, ⟨by decide +kernel, by decide +kernel, by decide +kernel⟩, m_t962⟩
theorem L_X6_81 : LkV RX6 81 RX6 yX6_isThere cX6_isThere 2 (some .boolean) 1 := ⟨m_t1030, m_t6, m_t1033, ⟨by decide +kernel, by decide +kernel, by decide +kernel⟩, m_t1032, m_s31⟩
theorem L_X6_91 : LkV RX6 91 RX6 yX6_refuse cX6_refuse 2 (some .int) 1 := ⟨m_t966, m_t6, m_t969, ⟨by decide +kernel, by decide +kernel, by decide +kernel⟩, m_t968, m_s24⟩
theorem L_X6_95 : LkV RX6 95 RX6 yX6_noRow cX6_noRow 2 (some .int) 1 := ⟨m_t974, m_t6, m_t977, ⟨by decide +kernel, by decide +kernel, by decide +kernel⟩, m_t976, m_s25⟩
theorem L_X6_98 : LkS RX6 98 yX6_fit cX6_fit 3 (some .long) 2 := ⟨m_t978, m_t6, m_t980, ⟨by decide +kernel, by decide +kernel, by decide +kernel⟩, m_t979⟩
theorem L_X6_106 : LkS RX6 106 yX6_isUnder cX6_isUnder 2 (some .boolean) 2 := ⟨m_t1003, m_t6, m_t1005, ⟨by decide +kernel, by decide +kernel, by decide +kernel⟩, m_t1004⟩
theorem L_X6_110 : LkV RX6 110 RX6 yX6_fresh cX6_fresh 1 (some (.object "EachBookOnceModel")) 0 := ⟨m_t1006, m_t6, m_t1009, ⟨by decide +kernel, by decide +kernel, by decide +kernel⟩, m_t1008, m_s26⟩
theorem L_X6_114 : LkV RX6 114 RX6 yX6_does cX6_does 3 (some .int) 2 := ⟨m_t1018, m_t6, m_t1021, ⟨by decide +kernel, by decide +kernel, by decide +kernel⟩, m_t1020, m_s28⟩
theorem L_X6_122 : LkV RX6 122 RX6 yX6_valueNow cX6_valueNow 1 (some .int) 0 := ⟨m_t1074, m_t6, m_t1077, ⟨by decide +kernel, by decide +kernel, by decide +kernel⟩, m_t1076, m_s42⟩
theorem L_X6_126 : LkV RX6 126 RX6 yX6_newBook cX6_newBook 3 none 1 := ⟨m_t1090, m_t6, m_t1093, ⟨by decide +kernel, by decide +kernel, by decide +kernel⟩, m_t1092, m_s45⟩
theorem L_X6_134 : LkV RX6 134 RX6 yX6_newOne cX6_newOne 2 none 0 := ⟨m_t1104, m_t6, m_t1107, ⟨by decide +kernel, by decide +kernel, by decide +kernel⟩, m_t1106, m_s47⟩
theorem L_X6_137 : LkV RX6 137 RX6 yX6_add cX6_add 9 (some .int) 4 := ⟨m_t1098, m_t6, m_t1101, ⟨by decide +kernel, by decide +kernel, by decide +kernel⟩, m_t1100, m_s46⟩
theorem L_X6_157 : LkS RX6 157 yX6_isLetter cX6_isLetter 1 (some .boolean) 1 := ⟨m_t1132, m_t6, m_t1134, ⟨by decide +kernel, by decide +kernel, by decide +kernel⟩, m_t1133⟩
theorem L_X6_160 : LkS RX6 160 yX6_isDigit cX6_isDigit 1 (some .boolean) 1 := ⟨m_t1135, m_t6, m_t1137, ⟨by decide +kernel, by decide +kernel, by decide +kernel⟩, m_t1136⟩
theorem L_X6_170 : LkV RX6 170 RJ0 yJ0_length_8abf5 cJ0_length_8abf5 1 (some .int) 0 := ⟨m_t1149, m_t10, m_t467, ⟨by decide +kernel, by decide +kernel, by decide +kernel⟩, m_t465, m_t466⟩
theorem L_X6_175 : LkV RX6 175 RJ0 yJ0_charAt_5068e cJ0_charAt_5068e 2 (some .char) 1 := ⟨m_t1150, m_t10, m_t477, ⟨by decide +kernel, by decide +kernel, by decide +kernel⟩, m_t475, m_t476⟩
theorem L_X6_179 : LkV RX6 179 RX6 yX6_wrong cX6_wrong 1 (some .boolean) 0 := ⟨m_t1155, m_t6, m_t1158, ⟨by decide +kernel, by decide +kernel, by decide +kernel⟩, m_t1157, m_s53⟩
theorem L_X6_183 : LkV RX6 183 RX6 yX6_look cX6_look 1 none 0 := ⟨m_t1128, m_t6, m_t1131, ⟨by decide +kernel, by decide +kernel, by decide +kernel⟩, m_t1130, m_s49⟩
theorem L_X6_186 : LkV RX6 186 RX6 yX6_isWord cX6_isWord 3 (some .boolean) 1 := ⟨m_t1145, m_t6, m_t1148, ⟨by decide +kernel, by decide +kernel, by decide +kernel⟩, m_t1147, m_s51⟩
theorem L_X6_190 : LkV RX6 190 RX6 yX6_number cX6_number 5 (some .boolean) 4 := ⟨m_t1159, m_t6, m_t1162, ⟨by decide +kernel, by decide +kernel, by decide +kernel⟩, m_t1161, m_s54⟩
theorem L_X6_194 : LkV RX6 194 RX6 yX6_tells cX6_tells 6 (some .boolean) 5 := ⟨m_t1151, m_t6, m_t1154, ⟨by decide +kernel, by decide +kernel, by decide +kernel⟩, m_t1153, m_s52⟩
theorem L_X6_201 : LkV RX6 201 RX6 yX6_perhaps cX6_perhaps 6 (some .boolean) 5 := ⟨m_t1164, m_t6, m_t1167, ⟨by decide +kernel, by decide +kernel, by decide +kernel⟩, m_t1166, m_s55⟩
theorem L_X6_219 : LkV RX6 219 RX6 yX6_statement cX6_statement 2 (some .boolean) 0 := ⟨m_t1140, m_t6, m_t1143, ⟨by decide +kernel, by decide +kernel, by decide +kernel⟩, m_t1142, m_s50⟩
theorem L_X6_222 : LkV RX6 222 RX6 yX6_readAll cX6_readAll 1 (some .boolean) 0 := ⟨m_t1124, m_t6, m_t1127, ⟨by decide +kernel, by decide +kernel, by decide +kernel⟩, m_t1126, m_s48⟩
theorem L_X6_225 : LkV RX6 225 RX6 yX6_takeFrom cX6_takeFrom 2 none 1 := ⟨m_t1011, m_t6, m_t1014, ⟨by decide +kernel, by decide +kernel, by decide +kernel⟩, m_t1013, m_s27⟩
theorem L_X6_229 : LkV RX6 229 RX6 yX6_isBook cX6_isBook 3 (some .boolean) 1 := ⟨m_t1179, m_t6, m_t1182, ⟨by decide +kernel, by decide +kernel, by decide +kernel⟩, m_t1181, m_s56⟩
theorem L_X6_233 : LkV RX6 233 RX6 yX6_greatest cX6_greatest 5 (some .int) 2 := ⟨m_t1082, m_t6, m_t1085, ⟨by decide +kernel, by decide +kernel, by decide +kernel⟩, m_t1084, m_s44⟩
theorem L_X6_236 : LkV RX6 236 RX6 yX6_isOne cX6_isOne 3 (some .boolean) 1 := ⟨m_t1187, m_t6, m_t1190, ⟨by decide +kernel, by decide +kernel, by decide +kernel⟩, m_t1189, m_s57⟩
theorem L_X6_241 : LkV RX6 241 RX6 yX6_groundOf cX6_groundOf 6 (some .int) 2 := ⟨m_t1050, m_t6, m_t1053, ⟨by decide +kernel, by decide +kernel, by decide +kernel⟩, m_t1052, m_s36⟩
theorem L_X6_244 : LkV RX6 244 RX6 yX6_byGround cX6_byGround 4 (some .int) 3 := ⟨m_t1046, m_t6, m_t1049, ⟨by decide +kernel, by decide +kernel, by decide +kernel⟩, m_t1048, m_s35⟩
theorem L_X6_248 : LkV RX6 248 RX6 yX6_isWhite cX6_isWhite 2 (some .boolean) 1 := ⟨m_t1034, m_t6, m_t1037, ⟨by decide +kernel, by decide +kernel, by decide +kernel⟩, m_t1036, m_s32⟩
theorem L_X6_251 : LkV RX6 251 RX6 yX6_noReading cX6_noReading 3 (some .int) 2 := ⟨m_t1212, m_t6, m_t1215, ⟨by decide +kernel, by decide +kernel, by decide +kernel⟩, m_t1214, m_s58⟩
theorem L_X6_254 : LkV RX6 254 RX6 yX6_wouldKnow cX6_wouldKnow 4 (some .int) 2 := ⟨m_t1042, m_t6, m_t1045, ⟨by decide +kernel, by decide +kernel, by decide +kernel⟩, m_t1044, m_s34⟩
theorem L_X6_257 : LkV RX6 257 RX6 yX6_reads cX6_reads 3 none 2 := ⟨m_t1058, m_t6, m_t1061, ⟨by decide +kernel, by decide +kernel, by decide +kernel⟩, m_t1060, m_s38⟩
theorem L_X6_260 : LkV RX6 260 RX6 yX6_readsTo cX6_readsTo 7 (some .int) 3 := ⟨m_t1054, m_t6, m_t1057, ⟨by decide +kernel, by decide +kernel, by decide +kernel⟩, m_t1056, m_s37⟩
theorem L_X6_263 : LkV RX6 263 RX6 yX6_moreBy cX6_moreBy 5 (some .int) 3 := ⟨m_t1070, m_t6, m_t1073, ⟨by decide +kernel, by decide +kernel, by decide +kernel⟩, m_t1072, m_s41⟩
theorem L_X6_266 : LkV RX6 266 RX6 yX6_valueOf cX6_valueOf 4 (some .int) 1 := ⟨m_t1078, m_t6, m_t1081, ⟨by decide +kernel, by decide +kernel, by decide +kernel⟩, m_t1080, m_s43⟩
theorem L_X6_269 : LkV RX6 269 RX6 yX6_youngestBut cX6_youngestBut 4 (some .int) 1 := ⟨m_t1066, m_t6, m_t1069, ⟨by decide +kernel, by decide +kernel, by decide +kernel⟩, m_t1068, m_s40⟩
theorem L_X6_272 : LkV RX6 272 RX6 yX6_readerOf cX6_readerOf 6 (some .int) 1 := ⟨m_t1038, m_t6, m_t1041, ⟨by decide +kernel, by decide +kernel, by decide +kernel⟩, m_t1040, m_s33⟩
theorem L_X6_275 : LkV RX6 275 RX6 yX6_thereMany cX6_thereMany 3 (some .int) 0 := ⟨m_t1026, m_t6, m_t1029, ⟨by decide +kernel, by decide +kernel, by decide +kernel⟩, m_t1028, m_s30⟩
theorem L_X6_278 : LkV RX6 278 RX6 yX6_readMost cX6_readMost 6 (some .int) 2 := ⟨m_t1022, m_t6, m_t1025, ⟨by decide +kernel, by decide +kernel, by decide +kernel⟩, m_t1024, m_s29⟩
theorem L_X6_282 : LkV RX6 282 RX6 yX6_chain cX6_chain 4 none 0 := ⟨m_t1062, m_t6, m_t1065, ⟨by decide +kernel, by decide +kernel, by decide +kernel⟩, m_t1064, m_s39⟩
theorem L_X6_288 : LkV RX6 288 RX6 yX6_end cX6_end 5 (some .int) 0 := ⟨m_t1260, m_t6, m_t1263, ⟨by decide +kernel, by decide +kernel, by decide +kernel⟩, m_t1262, m_s59⟩
theorem L_X6_291 : LkI RX6 291 yX6_init cX6_init 1 0 := ⟨m_t1010, m_t6, m_t842, ⟨by decide +kernel, by decide +kernel, by decide +kernel⟩, rfl, m_t841⟩
theorem L_X6_295 : LkV RX6 295 RX6 yX6_goes cX6_goes 6 (some .int) 3 := ⟨m_t1278, m_t6, m_t1281, ⟨by decide +kernel, by decide +kernel, by decide +kernel⟩, m_t1280, m_s62⟩
theorem L_X6_302 : LkV RX6 302 RX6 yX6_noRule cX6_noRule 2 (some .int) 1 := ⟨m_t1270, m_t6, m_t1273, ⟨by decide +kernel, by decide +kernel, by decide +kernel⟩, m_t1272, m_s60⟩
theorem L_X6_305 : LkV RX6 305 RX6 yX6_sumOf cX6_sumOf 3 (some .int) 2 := ⟨m_t1274, m_t6, m_t1277, ⟨by decide +kernel, by decide +kernel, by decide +kernel⟩, m_t1276, m_s61⟩
theorem L_X6_308 : LkV RX6 308 RX6 yX6_whiteMany cX6_whiteMany 3 (some .int) 0 := ⟨m_t1282, m_t6, m_t1285, ⟨by decide +kernel, by decide +kernel, by decide +kernel⟩, m_t1284, m_s63⟩
theorem L_X6_315 : LkV RX6 315 RX6 yX6_findWho cX6_findWho 6 (some .int) 2 := ⟨m_t1299, m_t6, m_t1302, ⟨by decide +kernel, by decide +kernel, by decide +kernel⟩, m_t1301, m_s64⟩
theorem L_X6_326 : LkV RX6 326 RX6 yX6_rowsFrom cX6_rowsFrom 8 none 5 := ⟨m_t1313, m_t6, m_t1316, ⟨by decide +kernel, by decide +kernel, by decide +kernel⟩, m_t1315, m_s65⟩
theorem L_X6_332 : LkS RX6 332 yX6_leftOf cX6_leftOf 5 (some .int) 3 := ⟨m_t1321, m_t6, m_t1323, ⟨by decide +kernel, by decide +kernel, by decide +kernel⟩, m_t1322⟩
theorem L_X6_335 : LkV RX6 335 RX6 yX6_lostBy cX6_lostBy 5 (some .int) 2 := ⟨m_t1336, m_t6, m_t1339, ⟨by decide +kernel, by decide +kernel, by decide +kernel⟩, m_t1338, m_s66⟩
theorem L_X6_338 : LkS RX6 338 yX6_bits cX6_bits 3 (some .int) 1 := ⟨m_t1344, m_t6, m_t1346, ⟨by decide +kernel, by decide +kernel, by decide +kernel⟩, m_t1345⟩
theorem L_X6_345 : LkV RX6 345 RX6 yX6_noTold cX6_noTold 4 (some .int) 2 := ⟨m_t1351, m_t6, m_t1354, ⟨by decide +kernel, by decide +kernel, by decide +kernel⟩, m_t1353, m_s67⟩
theorem L_X6_348 : LkV RX6 348 RX6 yX6_wrongAt cX6_wrongAt 9 (some .int) 2 := ⟨m_t1356, m_t6, m_t1359, ⟨by decide +kernel, by decide +kernel, by decide +kernel⟩, m_t1358, m_s68⟩
theorem L_X6_352 : LkV RX6 352 RX6 yX6_draw cX6_draw 2 (some .int) 1 := ⟨m_t1369, m_t6, m_t1372, ⟨by decide +kernel, by decide +kernel, by decide +kernel⟩, m_t1371, m_s69⟩
theorem L_X6_358 : LkS RX6 358 yX6_overAll cX6_overAll 4 none 2 := ⟨m_t1015, m_t6, m_t1017, ⟨by decide +kernel, by decide +kernel, by decide +kernel⟩, m_t1016⟩
theorem L_L_9 : LkI RL 9 yX5_init cX5_init 1 0 := ⟨m_t17, m_t1, m_t19, ⟨by decide +kernel, by decide +kernel, by decide +kernel⟩, rfl, m_t18⟩
theorem L_L_12 : LkI RL 12 yX6_init cX6_init 1 0 := ⟨m_t840, m_t6, m_t842, ⟨by decide +kernel, by decide +kernel, by decide +kernel⟩, rfl, m_t841⟩
theorem L_L_13 : LkV RL 13 RX5 yX5_row cX5_row 4 (some .int) 3 := ⟨m_t202, m_t1, m_t205, ⟨by decide +kernel, by decide +kernel, by decide +kernel⟩, m_t203, m_t204⟩
theorem L_L_17 : LkV RL 17 RX6 yX6_row cX6_row 5 (some .int) 3 := ⟨m_t956, m_t6, m_t959, ⟨by decide +kernel, by decide +kernel, by decide +kernel⟩, m_t957, m_t958⟩
theorem L_L_20 : LkV RL 20 RX5 yX5_set cX5_set 6 (some .int) 3 := ⟨m_t223, m_t1, m_t226, ⟨by decide +kernel, by decide +kernel, by decide +kernel⟩, m_t224, m_t225⟩
theorem L_L_24 : LkV RL 24 RX6 yX6_set cX6_set 6 (some .int) 3 := ⟨m_t970, m_t6, m_t973, ⟨by decide +kernel, by decide +kernel, by decide +kernel⟩, m_t971, m_t972⟩
theorem L_L_25 : LkV RL 25 RX5 yX5_copy cX5_copy 7 (some .int) 5 := ⟨m_t246, m_t1, m_t249, ⟨by decide +kernel, by decide +kernel, by decide +kernel⟩, m_t247, m_t248⟩
theorem L_L_29 : LkV RL 29 RX6 yX6_copy cX6_copy 7 (some .int) 5 := ⟨m_t981, m_t6, m_t984, ⟨by decide +kernel, by decide +kernel, by decide +kernel⟩, m_t982, m_t983⟩
theorem L_L_30 : LkV RL 30 RX5 yX5_element cX5_element 3 (some .long) 2 := ⟨m_t265, m_t1, m_t268, ⟨by decide +kernel, by decide +kernel, by decide +kernel⟩, m_t266, m_t267⟩
theorem L_L_34 : LkV RL 34 RX6 yX6_element cX6_element 3 (some .long) 2 := ⟨m_t985, m_t6, m_t988, ⟨by decide +kernel, by decide +kernel, by decide +kernel⟩, m_t986, m_t987⟩
theorem L_L_35 : LkV RL 35 RX5 yX5_holds cX5_holds 2 (some .int) 1 := ⟨m_t273, m_t1, m_t276, ⟨by decide +kernel, by decide +kernel, by decide +kernel⟩, m_t274, m_t275⟩
theorem L_L_39 : LkV RL 39 RX6 yX6_holds cX6_holds 2 (some .int) 1 := ⟨m_t989, m_t6, m_t992, ⟨by decide +kernel, by decide +kernel, by decide +kernel⟩, m_t990, m_t991⟩
theorem L_L_40 : LkV RL 40 RX5 yX5_rule cX5_rule 4 (some .int) 3 := ⟨m_t277, m_t1, m_t280, ⟨by decide +kernel, by decide +kernel, by decide +kernel⟩, m_t278, m_t279⟩
theorem L_L_43 : LkV RL 43 RX6 yX6_rule cX6_rule 4 (some .int) 3 := ⟨m_t993, m_t6, m_t996, ⟨by decide +kernel, by decide +kernel, by decide +kernel⟩, m_t994, m_t995⟩
theorem L_L_44 : LkV RL 44 RX5 yX5_says cX5_says 6 (some .int) 2 := ⟨m_t287, m_t1, m_t290, ⟨by decide +kernel, by decide +kernel, by decide +kernel⟩, m_t288, m_t289⟩
theorem L_L_48 : LkV RL 48 RX6 yX6_says cX6_says 4 (some .int) 2 := ⟨m_t999, m_t6, m_t1002, ⟨by decide +kernel, by decide +kernel, by decide +kernel⟩, m_t1000, m_t1001⟩
theorem L_L_49 : LkV RL 49 RX5 yX5_book cX5_book 3 (some .int) 2 := ⟨m_t397, m_t1, m_t400, ⟨by decide +kernel, by decide +kernel, by decide +kernel⟩, m_t398, m_t399⟩
theorem L_L_52 : LkV RL 52 RX6 yX6_book cX6_book 3 (some .int) 2 := ⟨m_t1086, m_t6, m_t1089, ⟨by decide +kernel, by decide +kernel, by decide +kernel⟩, m_t1087, m_t1088⟩
theorem L_L_53 : LkV RL 53 RX5 yX5_one cX5_one 5 (some .int) 4 := ⟨m_t409, m_t1, m_t412, ⟨by decide +kernel, by decide +kernel, by decide +kernel⟩, m_t410, m_t411⟩
theorem L_L_57 : LkV RL 57 RX6 yX6_one cX6_one 6 (some .int) 4 := ⟨m_t1094, m_t6, m_t1097, ⟨by decide +kernel, by decide +kernel, by decide +kernel⟩, m_t1095, m_t1096⟩
theorem L_L_58 : LkV RL 58 RX5 yX5_ones cX5_ones 14 (some .int) 2 := ⟨m_t422, m_t1, m_t425, ⟨by decide +kernel, by decide +kernel, by decide +kernel⟩, m_t423, m_t424⟩
theorem L_L_61 : LkV RL 61 RX6 yX6_ones cX6_ones 6 (some .int) 2 := ⟨m_t1108, m_t6, m_t1111, ⟨by decide +kernel, by decide +kernel, by decide +kernel⟩, m_t1109, m_t1110⟩
theorem L_L_62 : LkV RL 62 RX5 yX5_feed cX5_feed 4 (some .int) 2 := ⟨m_t426, m_t1, m_t429, ⟨by decide +kernel, by decide +kernel, by decide +kernel⟩, m_t427, m_t428⟩
theorem L_L_65 : LkV RL 65 RX6 yX6_feed cX6_feed 4 (some .int) 2 := ⟨m_t1112, m_t6, m_t1115, ⟨by decide +kernel, by decide +kernel, by decide +kernel⟩, m_t1113, m_t1114⟩
theorem L_L_66 : LkV RL 66 RX5 yX5_wipe cX5_wipe 2 (some .int) 0 := ⟨m_t434, m_t1, m_t437, ⟨by decide +kernel, by decide +kernel, by decide +kernel⟩, m_t435, m_t436⟩
theorem L_L_70 : LkV RL 70 RX6 yX6_wipe cX6_wipe 2 (some .int) 0 := ⟨m_t1116, m_t6, m_t1119, ⟨by decide +kernel, by decide +kernel, by decide +kernel⟩, m_t1117, m_t1118⟩
theorem L_L_71 : LkV RL 71 RX5 yX5_town cX5_town 2 (some .int) 0 := ⟨m_t438, m_t1, m_t441, ⟨by decide +kernel, by decide +kernel, by decide +kernel⟩, m_t439, m_t440⟩
theorem L_L_74 : LkV RL 74 RX6 yX6_town cX6_town 3 (some .int) 0 := ⟨m_t1120, m_t6, m_t1123, ⟨by decide +kernel, by decide +kernel, by decide +kernel⟩, m_t1121, m_t1122⟩
theorem L_L_75 : LkV RL 75 RX5 yX5_bookOf cX5_bookOf 3 (some .int) 2 := ⟨m_t560, m_t1, m_t563, ⟨by decide +kernel, by decide +kernel, by decide +kernel⟩, m_t561, m_t562⟩
theorem L_L_78 : LkV RL 78 RX6 yX6_bookOf cX6_bookOf 3 (some .int) 2 := ⟨m_t1175, m_t6, m_t1178, ⟨by decide +kernel, by decide +kernel, by decide +kernel⟩, m_t1176, m_t1177⟩
theorem L_L_79 : LkV RL 79 RX5 yX5_oneOf cX5_oneOf 3 (some .int) 2 := ⟨m_t570, m_t1, m_t573, ⟨by decide +kernel, by decide +kernel, by decide +kernel⟩, m_t571, m_t572⟩
theorem L_L_82 : LkV RL 82 RX6 yX6_oneOf cX6_oneOf 3 (some .int) 2 := ⟨m_t1183, m_t6, m_t1186, ⟨by decide +kernel, by decide +kernel, by decide +kernel⟩, m_t1184, m_t1185⟩
theorem L_L_83 : LkV RL 83 RX5 yX5_known cX5_known 3 (some .int) 2 := ⟨m_t578, m_t1, m_t581, ⟨by decide +kernel, by decide +kernel, by decide +kernel⟩, m_t579, m_t580⟩
theorem L_L_86 : LkV RL 86 RX6 yX6_known cX6_known 3 (some .int) 2 := ⟨m_t1191, m_t6, m_t1194, ⟨by decide +kernel, by decide +kernel, by decide +kernel⟩, m_t1192, m_t1193⟩
theorem L_L_87 : LkV RL 87 RX5 yX5_alter cX5_alter 5 (some .int) 3 := ⟨m_t587, m_t1, m_t590, ⟨by decide +kernel, by decide +kernel, by decide +kernel⟩, m_t588, m_t589⟩
theorem L_L_90 : LkV RL 90 RX6 yX6_alter cX6_alter 5 (some .int) 3 := ⟨m_t1195, m_t6, m_t1198, ⟨by decide +kernel, by decide +kernel, by decide +kernel⟩, m_t1196, m_t1197⟩
theorem L_L_91 : LkV RL 91 RX5 yX5_ground cX5_ground 3 (some .int) 2 := ⟨m_t593, m_t1, m_t596, ⟨by decide +kernel, by decide +kernel, by decide +kernel⟩, m_t594, m_t595⟩
theorem L_L_94 : LkV RL 94 RX6 yX6_ground cX6_ground 3 (some .int) 2 := ⟨m_t1204, m_t6, m_t1207, ⟨by decide +kernel, by decide +kernel, by decide +kernel⟩, m_t1205, m_t1206⟩
theorem L_L_95 : LkV RL 95 RX5 yX5_would cX5_would 4 (some .int) 2 := ⟨m_t598, m_t1, m_t601, ⟨by decide +kernel, by decide +kernel, by decide +kernel⟩, m_t599, m_t600⟩
theorem L_L_98 : LkV RL 98 RX6 yX6_would cX6_would 4 (some .int) 2 := ⟨m_t1208, m_t6, m_t1211, ⟨by decide +kernel, by decide +kernel, by decide +kernel⟩, m_t1209, m_t1210⟩
theorem L_L_99 : LkV RL 99 RX5 yX5_read cX5_read 4 (some .int) 2 := ⟨m_t607, m_t1, m_t610, ⟨by decide +kernel, by decide +kernel, by decide +kernel⟩, m_t608, m_t609⟩
theorem L_L_102 : LkV RL 102 RX6 yX6_read cX6_read 4 (some .int) 2 := ⟨m_t1216, m_t6, m_t1219, ⟨by decide +kernel, by decide +kernel, by decide +kernel⟩, m_t1217, m_t1218⟩
theorem L_L_103 : LkV RL 103 RX5 yX5_aloud cX5_aloud 5 (some .int) 3 := ⟨m_t612, m_t1, m_t615, ⟨by decide +kernel, by decide +kernel, by decide +kernel⟩, m_t613, m_t614⟩
theorem L_L_106 : LkV RL 106 RX6 yX6_aloud cX6_aloud 5 (some .int) 3 := ⟨m_t1220, m_t6, m_t1223, ⟨by decide +kernel, by decide +kernel, by decide +kernel⟩, m_t1221, m_t1222⟩
theorem L_L_107 : LkV RL 107 RX5 yX5_tell cX5_tell 5 (some .int) 3 := ⟨m_t617, m_t1, m_t620, ⟨by decide +kernel, by decide +kernel, by decide +kernel⟩, m_t618, m_t619⟩
theorem L_L_110 : LkV RL 110 RX6 yX6_tell cX6_tell 5 (some .int) 3 := ⟨m_t1224, m_t6, m_t1227, ⟨by decide +kernel, by decide +kernel, by decide +kernel⟩, m_t1225, m_t1226⟩
theorem L_L_111 : LkV RL 111 RX5 yX5_write cX5_write 3 (some .int) 2 := ⟨m_t623, m_t1, m_t626, ⟨by decide +kernel, by decide +kernel, by decide +kernel⟩, m_t624, m_t625⟩
theorem L_L_114 : LkV RL 114 RX6 yX6_write cX6_write 3 (some .int) 2 := ⟨m_t1232, m_t6, m_t1235, ⟨by decide +kernel, by decide +kernel, by decide +kernel⟩, m_t1233, m_t1234⟩
theorem L_L_115 : LkV RL 115 RX5 yX5_value cX5_value 1 (some .int) 0 := ⟨m_t631, m_t1, m_t634, ⟨by decide +kernel, by decide +kernel, by decide +kernel⟩, m_t632, m_t633⟩
theorem L_L_118 : LkV RL 118 RX6 yX6_value cX6_value 1 (some .int) 0 := ⟨m_t1236, m_t6, m_t1239, ⟨by decide +kernel, by decide +kernel, by decide +kernel⟩, m_t1237, m_t1238⟩
theorem L_L_119 : LkV RL 119 RX5 yX5_reader cX5_reader 2 (some .int) 1 := ⟨m_t635, m_t1, m_t638, ⟨by decide +kernel, by decide +kernel, by decide +kernel⟩, m_t636, m_t637⟩
theorem L_L_122 : LkV RL 122 RX6 yX6_reader cX6_reader 2 (some .int) 1 := ⟨m_t1248, m_t6, m_t1251, ⟨by decide +kernel, by decide +kernel, by decide +kernel⟩, m_t1249, m_t1250⟩
theorem L_L_123 : LkV RL 123 RX5 yX5_run cX5_run 6 (some .int) 3 := ⟨m_t640, m_t1, m_t643, ⟨by decide +kernel, by decide +kernel, by decide +kernel⟩, m_t641, m_t642⟩
theorem L_L_126 : LkV RL 126 RX6 yX6_run cX6_run 6 (some .int) 3 := ⟨m_t1264, m_t6, m_t1267, ⟨by decide +kernel, by decide +kernel, by decide +kernel⟩, m_t1265, m_t1266⟩
theorem L_L_127 : LkV RL 127 RX5 yX5_head cX5_head 6 (some .int) 1 := ⟨m_t669, m_t1, m_t672, ⟨by decide +kernel, by decide +kernel, by decide +kernel⟩, m_t670, m_t671⟩
theorem L_L_130 : LkV RL 130 RX6 yX6_head cX6_head 6 (some .int) 1 := ⟨m_t1291, m_t6, m_t1294, ⟨by decide +kernel, by decide +kernel, by decide +kernel⟩, m_t1292, m_t1293⟩
theorem L_L_131 : LkV RL 131 RX5 yX5_who cX5_who 3 (some .int) 2 := ⟨m_t673, m_t1, m_t676, ⟨by decide +kernel, by decide +kernel, by decide +kernel⟩, m_t674, m_t675⟩
theorem L_L_134 : LkV RL 134 RX6 yX6_who cX6_who 4 (some .int) 2 := ⟨m_t1295, m_t6, m_t1298, ⟨by decide +kernel, by decide +kernel, by decide +kernel⟩, m_t1296, m_t1297⟩
theorem L_L_135 : LkV RL 135 RX5 yX5_order cX5_order 4 (some .int) 2 := ⟨m_t687, m_t1, m_t690, ⟨by decide +kernel, by decide +kernel, by decide +kernel⟩, m_t688, m_t689⟩
theorem L_L_138 : LkV RL 138 RX6 yX6_order cX6_order 5 (some .int) 2 := ⟨m_t1308, m_t6, m_t1311, ⟨by decide +kernel, by decide +kernel, by decide +kernel⟩, m_t1309, m_t1310⟩
theorem L_L_139 : LkV RL 139 RX5 yX5_keeping cX5_keeping 4 (some .int) 2 := ⟨m_t700, m_t1, m_t703, ⟨by decide +kernel, by decide +kernel, by decide +kernel⟩, m_t701, m_t702⟩
theorem L_L_142 : LkV RL 142 RX6 yX6_keeping cX6_keeping 4 (some .int) 2 := ⟨m_t1303, m_t6, m_t1306, ⟨by decide +kernel, by decide +kernel, by decide +kernel⟩, m_t1304, m_t1305⟩
theorem L_L_143 : LkV RL 143 RX5 yX5_left cX5_left 6 (some .int) 3 := ⟨m_t711, m_t1, m_t714, ⟨by decide +kernel, by decide +kernel, by decide +kernel⟩, m_t712, m_t713⟩
theorem L_L_146 : LkV RL 146 RX6 yX6_left cX6_left 4 (some .int) 3 := ⟨m_t1317, m_t6, m_t1320, ⟨by decide +kernel, by decide +kernel, by decide +kernel⟩, m_t1318, m_t1319⟩
theorem L_L_147 : LkV RL 147 RX5 yX5_longest cX5_longest 6 (some .int) 3 := ⟨m_t719, m_t1, m_t722, ⟨by decide +kernel, by decide +kernel, by decide +kernel⟩, m_t720, m_t721⟩
theorem L_L_150 : LkV RL 150 RX6 yX6_longest cX6_longest 5 (some .int) 3 := ⟨m_t1324, m_t6, m_t1327, ⟨by decide +kernel, by decide +kernel, by decide +kernel⟩, m_t1325, m_t1326⟩
theorem L_L_151 : LkV RL 151 RX5 yX5_hangs cX5_hangs 6 (some .int) 0 := ⟨m_t723, m_t1, m_t726, ⟨by decide +kernel, by decide +kernel, by decide +kernel⟩, m_t724, m_t725⟩
theorem L_L_154 : LkV RL 154 RX6 yX6_hangs cX6_hangs 6 (some .int) 0 := ⟨m_t1328, m_t6, m_t1331, ⟨by decide +kernel, by decide +kernel, by decide +kernel⟩, m_t1329, m_t1330⟩
theorem L_L_155 : LkV RL 155 RX5 yX5_lost cX5_lost 2 (some .int) 1 := ⟨m_t728, m_t1, m_t731, ⟨by decide +kernel, by decide +kernel, by decide +kernel⟩, m_t729, m_t730⟩
theorem L_L_158 : LkV RL 158 RX6 yX6_lost cX6_lost 2 (some .int) 1 := ⟨m_t1332, m_t6, m_t1335, ⟨by decide +kernel, by decide +kernel, by decide +kernel⟩, m_t1333, m_t1334⟩
theorem L_L_159 : LkV RL 159 RX5 yX5_bear cX5_bear 7 (some .int) 1 := ⟨m_t736, m_t1, m_t739, ⟨by decide +kernel, by decide +kernel, by decide +kernel⟩, m_t737, m_t738⟩
theorem L_L_162 : LkV RL 162 RX6 yX6_bear cX6_bear 5 (some .int) 1 := ⟨m_t1340, m_t6, m_t1343, ⟨by decide +kernel, by decide +kernel, by decide +kernel⟩, m_t1341, m_t1342⟩
theorem L_L_163 : LkV RL 163 RX5 yX5_youngest cX5_youngest 2 (some .int) 1 := ⟨m_t740, m_t1, m_t743, ⟨by decide +kernel, by decide +kernel, by decide +kernel⟩, m_t741, m_t742⟩
theorem L_L_166 : LkV RL 166 RX6 yX6_youngest cX6_youngest 2 (some .int) 1 := ⟨m_t1244, m_t6, m_t1247, ⟨by decide +kernel, by decide +kernel, by decide +kernel⟩, m_t1245, m_t1246⟩
theorem L_L_167 : LkV RL 167 RX5 yX5_teach cX5_teach 7 (some .int) 2 := ⟨m_t745, m_t1, m_t748, ⟨by decide +kernel, by decide +kernel, by decide +kernel⟩, m_t746, m_t747⟩
theorem L_L_170 : LkV RL 170 RX6 yX6_teach cX6_teach 7 (some .int) 2 := ⟨m_t1228, m_t6, m_t1231, ⟨by decide +kernel, by decide +kernel, by decide +kernel⟩, m_t1229, m_t1230⟩
theorem L_L_171 : LkV RL 171 RX5 yX5_needs cX5_needs 3 (some .int) 2 := ⟨m_t749, m_t1, m_t752, ⟨by decide +kernel, by decide +kernel, by decide +kernel⟩, m_t750, m_t751⟩
theorem L_L_175 : LkV RL 175 RX6 yX6_needs cX6_needs 5 (some .int) 2 := ⟨m_t1200, m_t6, m_t1203, ⟨by decide +kernel, by decide +kernel, by decide +kernel⟩, m_t1201, m_t1202⟩
theorem L_L_176 : LkV RL 176 RX5 yX5_next cX5_next 5 (some .int) 0 := ⟨m_t762, m_t1, m_t765, ⟨by decide +kernel, by decide +kernel, by decide +kernel⟩, m_t763, m_t764⟩
theorem L_L_179 : LkV RL 179 RX6 yX6_next cX6_next 6 (some .int) 0 := ⟨m_t1252, m_t6, m_t1255, ⟨by decide +kernel, by decide +kernel, by decide +kernel⟩, m_t1253, m_t1254⟩
theorem L_L_180 : LkV RL 180 RX5 yX5_two cX5_two 3 (some .int) 2 := ⟨m_t771, m_t1, m_t774, ⟨by decide +kernel, by decide +kernel, by decide +kernel⟩, m_t772, m_t773⟩
theorem L_L_183 : LkV RL 183 RX6 yX6_two cX6_two 3 (some .int) 2 := ⟨m_t1240, m_t6, m_t1243, ⟨by decide +kernel, by decide +kernel, by decide +kernel⟩, m_t1241, m_t1242⟩
theorem L_L_184 : LkV RL 184 RX5 yX5_gains cX5_gains 5 (some .int) 2 := ⟨m_t775, m_t1, m_t778, ⟨by decide +kernel, by decide +kernel, by decide +kernel⟩, m_t776, m_t777⟩
theorem L_L_187 : LkV RL 187 RX6 yX6_gains cX6_gains 4 (some .int) 2 := ⟨m_t1286, m_t6, m_t1289, ⟨by decide +kernel, by decide +kernel, by decide +kernel⟩, m_t1287, m_t1288⟩
theorem L_L_188 : LkV RL 188 RX5 yX5_judge cX5_judge 4 (some .int) 2 := ⟨m_t780, m_t1, m_t783, ⟨by decide +kernel, by decide +kernel, by decide +kernel⟩, m_t781, m_t782⟩
theorem L_L_191 : LkV RL 191 RX6 yX6_judge cX6_judge 4 (some .int) 2 := ⟨m_t1347, m_t6, m_t1350, ⟨by decide +kernel, by decide +kernel, by decide +kernel⟩, m_t1348, m_t1349⟩
theorem L_L_192 : LkV RL 192 RX5 yX5_told cX5_told 4 (some .int) 2 := ⟨m_t794, m_t1, m_t797, ⟨by decide +kernel, by decide +kernel, by decide +kernel⟩, m_t795, m_t796⟩
theorem L_L_195 : LkV RL 195 RX6 yX6_told cX6_told 4 (some .int) 2 := ⟨m_t1361, m_t6, m_t1364, ⟨by decide +kernel, by decide +kernel, by decide +kernel⟩, m_t1362, m_t1363⟩
theorem L_L_196 : LkV RL 196 RX5 yX5_years cX5_years 6 (some .int) 2 := ⟨m_t798, m_t1, m_t801, ⟨by decide +kernel, by decide +kernel, by decide +kernel⟩, m_t799, m_t800⟩
theorem L_L_199 : LkV RL 199 RX6 yX6_years cX6_years 7 (some .int) 2 := ⟨m_t1365, m_t6, m_t1368, ⟨by decide +kernel, by decide +kernel, by decide +kernel⟩, m_t1366, m_t1367⟩
theorem L_L_200 : LkV RL 200 RX5 yX5_ends cX5_ends 1 (some .int) 0 := ⟨m_t812, m_t1, m_t815, ⟨by decide +kernel, by decide +kernel, by decide +kernel⟩, m_t813, m_t814⟩
theorem L_L_203 : LkV RL 203 RX6 yX6_ends cX6_ends 1 (some .int) 0 := ⟨m_t1256, m_t6, m_t1259, ⟨by decide +kernel, by decide +kernel, by decide +kernel⟩, m_t1257, m_t1258⟩
theorem L_L_204 : LkV RL 204 RX5 yX5_seed cX5_seed 3 (some .int) 1 := ⟨m_t816, m_t1, m_t819, ⟨by decide +kernel, by decide +kernel, by decide +kernel⟩, m_t817, m_t818⟩
theorem L_L_207 : LkV RL 207 RX6 yX6_seed cX6_seed 3 (some .int) 1 := ⟨m_t1374, m_t6, m_t1377, ⟨by decide +kernel, by decide +kernel, by decide +kernel⟩, m_t1375, m_t1376⟩
theorem L_L_208 : LkV RL 208 RX5 yX5_image cX5_image 1 (some .int) 0 := ⟨m_t820, m_t1, m_t823, ⟨by decide +kernel, by decide +kernel, by decide +kernel⟩, m_t821, m_t822⟩
theorem L_L_211 : LkV RL 211 RX6 yX6_image cX6_image 1 (some .int) 0 := ⟨m_t1378, m_t6, m_t1381, ⟨by decide +kernel, by decide +kernel, by decide +kernel⟩, m_t1379, m_t1380⟩
theorem L_L_212 : LkV RL 212 RX5 yX5_back cX5_back 1 (some .int) 0 := ⟨m_t824, m_t1, m_t827, ⟨by decide +kernel, by decide +kernel, by decide +kernel⟩, m_t825, m_t826⟩
theorem L_L_215 : LkV RL 215 RX6 yX6_back cX6_back 1 (some .int) 0 := ⟨m_t1382, m_t6, m_t1385, ⟨by decide +kernel, by decide +kernel, by decide +kernel⟩, m_t1383, m_t1384⟩
theorem L_L_216 : LkV RL 216 RX5 yX5_status cX5_status 2 (some .int) 1 := ⟨m_t828, m_t1, m_t831, ⟨by decide +kernel, by decide +kernel, by decide +kernel⟩, m_t829, m_t830⟩
theorem L_L_219 : LkV RL 219 RX6 yX6_status cX6_status 4 (some .int) 1 := ⟨m_t1386, m_t6, m_t1389, ⟨by decide +kernel, by decide +kernel, by decide +kernel⟩, m_t1387, m_t1388⟩
end
section
/-! new int[8][k], new long[8][k] over the known classes -/
theorem rows8 (f : Nat → va_E) (r : Nat → Nat) (e : va_E) : va_pl ([] ++ (List.range 8).map r) (vr_up f ((List.range 8).map r) e) = [(r 0, e), (r 1, e), (r 2, e), (r 3, e), (r 4, e), (r 5, e), (r 6, e), (r 7, e)] := by
  show ([r 0, r 1, r 2, r 3, r 4, r 5, r 6, r 7]).map (fun a => (a, vr_up f [r 0, r 1, r 2, r 3, r 4, r 5, r 6, r 7] e a)) = _
  simp [vr_up]
section GRD
variable {p : Program} {l : Launch} {e : Env} {R : Room} {s : State} {m : MethodId} {args : Array Value} {below : List Frame} {meth : Method} {c : Code} {H : Heap} {locs : List Loc} {cells slots : Nat} {Q : State → Prop}
variable {cc : ByteArray} {pc index : Nat} {ls : Array Slot} {rest : List Value} {G : va_G} {cy : Nat → ClassId} {ws : va_W} {A : Nat → Prop} {H0 : Heap}
theorem newII (hexec : p.tables.exec = Jvm.exec) (hb : c.code = cc) (hts : ∀ w ∈ BIG, w.before args s = true) (hown : s.vm.findClass RX6 = some m.cls) (hcl : Cond.classLink RX6 index "[[I" ∈ BIG) (harr : Cond.arrayClass .int ∈ BIG) (hN : KN G cy s) (hP : va_P G CL ws H) (hD : va_D A ws) (hS : va_S A H0 H locs) (hA : ∀ q, H0.size ≤ q → A q) {n k : Int32} (K' : Nat) (hn : n = 8) (hk : ¬ k < 0) (hM : k.toNatClampNeg = K') (hb2 : K' * componentBytes .int ≤ 536870912) (hb3 : K' ≤ 536870912) (hcells : cells + (1 + 8) ≤ R.cells) (hslots : slots + (8 + 8 * K') ≤ R.slots) (hdg : decode cc pc = .ok (.multianewarray index 2, 4))
    (kk : ∀ (q : Nat) (r : Nat → Nat) (H1 : Heap), va_P G CL (ws ++ [(q, .inl (cy 3, 8, .inr (.inr (.inr (.inr (fun i => if i < 8 then some (r i) else none)))))), (r 0, .inl (cy 0, K', .inl (fun _ => 0))), (r 1, .inl (cy 0, K', .inl (fun _ => 0))), (r 2, .inl (cy 0, K', .inl (fun _ => 0))), (r 3, .inl (cy 0, K', .inl (fun _ => 0))), (r 4, .inl (cy 0, K', .inl (fun _ => 0))), (r 5, .inl (cy 0, K', .inl (fun _ => 0))), (r 6, .inl (cy 0, K', .inl (fun _ => 0))), (r 7, .inl (cy 0, K', .inl (fun _ => 0)))]) H1 → va_D A (ws ++ [(q, .inl (cy 3, 8, .inr (.inr (.inr (.inr (fun i => if i < 8 then some (r i) else none)))))), (r 0, .inl (cy 0, K', .inl (fun _ => 0))), (r 1, .inl (cy 0, K', .inl (fun _ => 0))), (r 2, .inl (cy 0, K', .inl (fun _ => 0))), (r 3, .inl (cy 0, K', .inl (fun _ => 0))), (r 4, .inl (cy 0, K', .inl (fun _ => 0))), (r 5, .inl (cy 0, K', .inl (fun _ => 0))), (r 6, .inl (cy 0, K', .inl (fun _ => 0))), (r 7, .inl (cy 0, K', .inl (fun _ => 0)))]) → va_S A H0 H1 locs →
      W p l e R s m args below meth c H1 locs (cells + 1 + 8) (slots + 8 + 8 * K') Q (F0 m (pc + 4) ls (.ref q :: rest))) : W p l e R s m args below meth c H locs cells slots Q (F0 m pc ls (.int k :: .int n :: rest)) := by
  subst hn
  have hcl2 : (Cond.classLink RX6 index ("[" ++ (FieldType.array .int).toString)).before args s = true := by
    rw [show ("[" ++ (FieldType.array .int).toString) = "[[I" by decide +kernel]
    exact hts _ hcl
  have hcy : s.vm.findClass (FieldType.array .int).toString = some (cy 0) := (hN.1.2 0 _ rfl).2
  refine va_mna (X := ws) (L := []) (f := fun _ => .inr (0, [])) (z := (K', .inl (fun _ => 0))) (N' := 8) (K' := K') hexec hb hown hcl2 hN.2.2.2.2.2.1 (hts _ harr) hcy hN.1 (by simpa [va_pl] using hP) (by simpa [va_pl] using hD) hS hA (by decide) hk (by decide) hM (by decide) hb2 hb3 rfl rfl hcells hslots (fun c0 => by show ({ cls := c0, slots := Array.replicate K' (.int 0), vm := .none } : Cell) = _; rw [arrV_new]; rfl) hdg (fun q r cA H1 hinj hni hK2 hP2 hD2 hS2 => ?_)
  have e0 := cyOne (t0 := 3) hN.1 rfl hK2
  subst e0
  rw [rows8, List.append_assoc] at hP2 hD2
  exact kk q r H1 hP2 hD2 hS2
theorem newJJ (hexec : p.tables.exec = Jvm.exec) (hb : c.code = cc) (hts : ∀ w ∈ BIG, w.before args s = true) (hown : s.vm.findClass RX6 = some m.cls) (hcl : Cond.classLink RX6 index "[[J" ∈ BIG) (harr : Cond.arrayClass .long ∈ BIG) (hN : KN G cy s) (hP : va_P G CL ws H) (hD : va_D A ws) (hS : va_S A H0 H locs) (hA : ∀ q, H0.size ≤ q → A q) {n k : Int32} (K' : Nat) (hn : n = 8) (hk : ¬ k < 0) (hM : k.toNatClampNeg = K') (hb2 : K' * componentBytes .long ≤ 536870912) (hb3 : K' ≤ 536870912) (hcells : cells + (1 + 8) ≤ R.cells) (hslots : slots + (8 + 8 * K') ≤ R.slots) (hdg : decode cc pc = .ok (.multianewarray index 2, 4))
    (kk : ∀ (q : Nat) (r : Nat → Nat) (H1 : Heap), va_P G CL (ws ++ [(q, .inl (cy 4, 8, .inr (.inr (.inr (.inr (fun i => if i < 8 then some (r i) else none)))))), (r 0, .inl (cy 1, K', .inr (.inl (fun _ => 0)))), (r 1, .inl (cy 1, K', .inr (.inl (fun _ => 0)))), (r 2, .inl (cy 1, K', .inr (.inl (fun _ => 0)))), (r 3, .inl (cy 1, K', .inr (.inl (fun _ => 0)))), (r 4, .inl (cy 1, K', .inr (.inl (fun _ => 0)))), (r 5, .inl (cy 1, K', .inr (.inl (fun _ => 0)))), (r 6, .inl (cy 1, K', .inr (.inl (fun _ => 0)))), (r 7, .inl (cy 1, K', .inr (.inl (fun _ => 0))))]) H1 → va_D A (ws ++ [(q, .inl (cy 4, 8, .inr (.inr (.inr (.inr (fun i => if i < 8 then some (r i) else none)))))), (r 0, .inl (cy 1, K', .inr (.inl (fun _ => 0)))), (r 1, .inl (cy 1, K', .inr (.inl (fun _ => 0)))), (r 2, .inl (cy 1, K', .inr (.inl (fun _ => 0)))), (r 3, .inl (cy 1, K', .inr (.inl (fun _ => 0)))), (r 4, .inl (cy 1, K', .inr (.inl (fun _ => 0)))), (r 5, .inl (cy 1, K', .inr (.inl (fun _ => 0)))), (r 6, .inl (cy 1, K', .inr (.inl (fun _ => 0)))), (r 7, .inl (cy 1, K', .inr (.inl (fun _ => 0))))]) → va_S A H0 H1 locs →
      W p l e R s m args below meth c H1 locs (cells + 1 + 8) (slots + 8 + 8 * K') Q (F0 m (pc + 4) ls (.ref q :: rest))) : W p l e R s m args below meth c H locs cells slots Q (F0 m pc ls (.int k :: .int n :: rest)) := by
  subst hn
  have hcl2 : (Cond.classLink RX6 index ("[" ++ (FieldType.array .long).toString)).before args s = true := by
    rw [show ("[" ++ (FieldType.array .long).toString) = "[[J" by decide +kernel]
    exact hts _ hcl
  have hcy : s.vm.findClass (FieldType.array .long).toString = some (cy 1) := (hN.1.2 1 _ rfl).2
  refine va_mna (X := ws) (L := []) (f := fun _ => .inr (0, [])) (z := (K', .inr (.inl (fun _ => 0)))) (N' := 8) (K' := K') hexec hb hown hcl2 hN.2.2.2.2.2.2 (hts _ harr) hcy hN.1 (by simpa [va_pl] using hP) (by simpa [va_pl] using hD) hS hA (by decide) hk (by decide) hM (by decide) hb2 hb3 rfl rfl hcells hslots (fun c0 => by show ({ cls := c0, slots := Array.replicate K' (.long 0), vm := .none } : Cell) = _; rw [arrV_new]; rfl) hdg (fun q r cA H1 hinj hni hK2 hP2 hD2 hS2 => ?_)
  have e0 := cyOne (t0 := 4) hN.1 rfl hK2
  subst e0
  rw [rows8, List.append_assoc] at hP2 hD2
  exact kk q r H1 hP2 hD2 hS2
end GRD
end
section
theorem m_t262 : Cond.methodLink RX2 29 arraycopyName ∈ BIG := big_t 262 (by decide +kernel) (by decide +kernel)
theorem m_t263 : Cond.static arraycopyName ∈ BIG := big_t 263 (by decide +kernel) (by decide +kernel)
theorem m_t310 : Cond.methodLink RX4 52 arraycopyName ∈ BIG := big_t 310 (by decide +kernel) (by decide +kernel)
end
section
theorem in_yes {v a b : Int64} (h1 : ¬ lg_cmp v a < 0) (h2 : ¬ 0 < lg_cmp v b) : In v a b := ⟨(lg_cmp_ge v a).mp (Int32.not_lt.mp h1), (lg_cmp_le v b).mp (Int32.not_lt.mp h2)⟩
theorem in_no1 {v a b : Int64} (h1 : lg_cmp v a < 0) : ¬ In v a b := fun h => absurd ((lg_cmp_ge v a).mpr h.1) (Int32.not_le.mpr h1)
theorem in_no2 {v a b : Int64} (h1 : 0 < lg_cmp v b) : ¬ In v a b := fun h => absurd ((lg_cmp_le v b).mpr h.2) (Int32.not_le.mpr h1)
theorem and_m1 (x : Int32) : x &&& (-1) = x := by
  apply Int32.toBitVec_inj.mp
  simp
theorem in_shelf {x : Int32} (h : In x.toInt64 0 7) : vp_in x 8 := by
  rw [vp_in_iff]
  obtain ⟨h1, h2⟩ := h
  rw [Int64.le_iff_toInt_le, Int32.toInt_toInt64] at h1 h2
  exact ⟨h1, Int.lt_of_le_of_lt h2 (by decide)⟩
theorem lt_in {x : Int32} {n : Nat} (h : vp_in x n) : x.toNatClampNeg < n := Nat.not_le.mp fun q => h (Or.inr q)
theorem dJ6_bitCount_0f7a4_0 : decode cJ6_bitCount_0f7a4 0 = .ok (.iload_n 0, 1) := by decide +kernel
theorem dJ6_bitCount_0f7a4_1 : decode cJ6_bitCount_0f7a4 1 = .ok (.iload_n 0, 1) := by decide +kernel
theorem dJ6_bitCount_0f7a4_2 : decode cJ6_bitCount_0f7a4 2 = .ok (.iconst 1, 1) := by decide +kernel
theorem dJ6_bitCount_0f7a4_3 : decode cJ6_bitCount_0f7a4 3 = .ok (.iushr, 1) := by decide +kernel
theorem dJ6_bitCount_0f7a4_4 : decode cJ6_bitCount_0f7a4 4 = .ok (.ldc_w 265, 3) := by decide +kernel
theorem dJ6_bitCount_0f7a4_7 : decode cJ6_bitCount_0f7a4 7 = .ok (.iand, 1) := by decide +kernel
theorem dJ6_bitCount_0f7a4_8 : decode cJ6_bitCount_0f7a4 8 = .ok (.isub, 1) := by decide +kernel
theorem dJ6_bitCount_0f7a4_9 : decode cJ6_bitCount_0f7a4 9 = .ok (.istore_n 0, 1) := by decide +kernel
theorem dJ6_bitCount_0f7a4_10 : decode cJ6_bitCount_0f7a4 10 = .ok (.iload_n 0, 1) := by decide +kernel
theorem dJ6_bitCount_0f7a4_11 : decode cJ6_bitCount_0f7a4 11 = .ok (.ldc_w 266, 3) := by decide +kernel
theorem dJ6_bitCount_0f7a4_14 : decode cJ6_bitCount_0f7a4 14 = .ok (.iand, 1) := by decide +kernel
theorem dJ6_bitCount_0f7a4_15 : decode cJ6_bitCount_0f7a4 15 = .ok (.iload_n 0, 1) := by decide +kernel
theorem dJ6_bitCount_0f7a4_16 : decode cJ6_bitCount_0f7a4 16 = .ok (.iconst 2, 1) := by decide +kernel
theorem dJ6_bitCount_0f7a4_17 : decode cJ6_bitCount_0f7a4 17 = .ok (.iushr, 1) := by decide +kernel
theorem dJ6_bitCount_0f7a4_18 : decode cJ6_bitCount_0f7a4 18 = .ok (.ldc_w 266, 3) := by decide +kernel
theorem dJ6_bitCount_0f7a4_21 : decode cJ6_bitCount_0f7a4 21 = .ok (.iand, 1) := by decide +kernel
theorem dJ6_bitCount_0f7a4_22 : decode cJ6_bitCount_0f7a4 22 = .ok (.iadd, 1) := by decide +kernel
theorem dJ6_bitCount_0f7a4_23 : decode cJ6_bitCount_0f7a4 23 = .ok (.istore_n 0, 1) := by decide +kernel
theorem dJ6_bitCount_0f7a4_24 : decode cJ6_bitCount_0f7a4 24 = .ok (.iload_n 0, 1) := by decide +kernel
theorem dJ6_bitCount_0f7a4_25 : decode cJ6_bitCount_0f7a4 25 = .ok (.iload_n 0, 1) := by decide +kernel
theorem dJ6_bitCount_0f7a4_26 : decode cJ6_bitCount_0f7a4 26 = .ok (.iconst 4, 1) := by decide +kernel
theorem dJ6_bitCount_0f7a4_27 : decode cJ6_bitCount_0f7a4 27 = .ok (.iushr, 1) := by decide +kernel
theorem dJ6_bitCount_0f7a4_28 : decode cJ6_bitCount_0f7a4 28 = .ok (.iadd, 1) := by decide +kernel
theorem dJ6_bitCount_0f7a4_29 : decode cJ6_bitCount_0f7a4 29 = .ok (.ldc_w 267, 3) := by decide +kernel
theorem dJ6_bitCount_0f7a4_32 : decode cJ6_bitCount_0f7a4 32 = .ok (.iand, 1) := by decide +kernel
theorem dJ6_bitCount_0f7a4_33 : decode cJ6_bitCount_0f7a4 33 = .ok (.istore_n 0, 1) := by decide +kernel
theorem dJ6_bitCount_0f7a4_34 : decode cJ6_bitCount_0f7a4 34 = .ok (.iload_n 0, 1) := by decide +kernel
theorem dJ6_bitCount_0f7a4_35 : decode cJ6_bitCount_0f7a4 35 = .ok (.iload_n 0, 1) := by decide +kernel
theorem dJ6_bitCount_0f7a4_36 : decode cJ6_bitCount_0f7a4 36 = .ok (.bipush 8, 2) := by decide +kernel
theorem dJ6_bitCount_0f7a4_38 : decode cJ6_bitCount_0f7a4 38 = .ok (.iushr, 1) := by decide +kernel
theorem dJ6_bitCount_0f7a4_39 : decode cJ6_bitCount_0f7a4 39 = .ok (.iadd, 1) := by decide +kernel
theorem dJ6_bitCount_0f7a4_40 : decode cJ6_bitCount_0f7a4 40 = .ok (.istore_n 0, 1) := by decide +kernel
theorem dJ6_bitCount_0f7a4_41 : decode cJ6_bitCount_0f7a4 41 = .ok (.iload_n 0, 1) := by decide +kernel
theorem dJ6_bitCount_0f7a4_42 : decode cJ6_bitCount_0f7a4 42 = .ok (.iload_n 0, 1) := by decide +kernel
theorem dJ6_bitCount_0f7a4_43 : decode cJ6_bitCount_0f7a4 43 = .ok (.bipush 16, 2) := by decide +kernel
theorem dJ6_bitCount_0f7a4_45 : decode cJ6_bitCount_0f7a4 45 = .ok (.iushr, 1) := by decide +kernel
theorem dJ6_bitCount_0f7a4_46 : decode cJ6_bitCount_0f7a4 46 = .ok (.iadd, 1) := by decide +kernel
theorem dJ6_bitCount_0f7a4_47 : decode cJ6_bitCount_0f7a4 47 = .ok (.istore_n 0, 1) := by decide +kernel
theorem dJ6_bitCount_0f7a4_48 : decode cJ6_bitCount_0f7a4 48 = .ok (.iload_n 0, 1) := by decide +kernel
theorem dJ6_bitCount_0f7a4_49 : decode cJ6_bitCount_0f7a4 49 = .ok (.bipush 63, 2) := by decide +kernel
theorem dJ6_bitCount_0f7a4_51 : decode cJ6_bitCount_0f7a4 51 = .ok (.iand, 1) := by decide +kernel
theorem dJ6_bitCount_0f7a4_52 : decode cJ6_bitCount_0f7a4 52 = .ok (.ireturn, 1) := by decide +kernel
theorem dX2_countHolding_0 : decode cX2_countHolding 0 = .ok (.iconst 0, 1) := by decide +kernel
theorem dX2_countHolding_1 : decode cX2_countHolding 1 = .ok (.istore_n 1, 1) := by decide +kernel
theorem dX2_countHolding_2 : decode cX2_countHolding 2 = .ok (.iconst 0, 1) := by decide +kernel
theorem dX2_countHolding_3 : decode cX2_countHolding 3 = .ok (.istore_n 2, 1) := by decide +kernel
theorem dX2_countHolding_4 : decode cX2_countHolding 4 = .ok (.iload_n 2, 1) := by decide +kernel
theorem dX2_countHolding_5 : decode cX2_countHolding 5 = .ok (.bipush 8, 2) := by decide +kernel
theorem dX2_countHolding_7 : decode cX2_countHolding 7 = .ok (.if_icmp .ge 22, 3) := by decide +kernel
theorem dX2_countHolding_10 : decode cX2_countHolding 10 = .ok (.aload_n 0, 1) := by decide +kernel
theorem dX2_countHolding_11 : decode cX2_countHolding 11 = .ok (.getfield 9, 3) := by decide +kernel
theorem dX2_countHolding_14 : decode cX2_countHolding 14 = .ok (.iload_n 2, 1) := by decide +kernel
theorem dX2_countHolding_15 : decode cX2_countHolding 15 = .ok (.iaload, 1) := by decide +kernel
theorem dX2_countHolding_16 : decode cX2_countHolding 16 = .ok (.iconst (-1), 1) := by decide +kernel
theorem dX2_countHolding_17 : decode cX2_countHolding 17 = .ok (.if_icmp .eq 6, 3) := by decide +kernel
theorem dX2_countHolding_23 : decode cX2_countHolding 23 = .ok (.iinc 2 1, 3) := by decide +kernel
theorem dX2_countHolding_26 : decode cX2_countHolding 26 = .ok (.goto (-22), 3) := by decide +kernel
theorem dX2_countHolding_29 : decode cX2_countHolding 29 = .ok (.iload_n 1, 1) := by decide +kernel
theorem dX2_countHolding_30 : decode cX2_countHolding 30 = .ok (.ireturn, 1) := by decide +kernel
theorem dX2_hasRow_0 : decode cX2_hasRow 0 = .ok (.aload_n 0, 1) := by decide +kernel
theorem dX2_hasRow_1 : decode cX2_hasRow 1 = .ok (.getfield 9, 3) := by decide +kernel
theorem dX2_hasRow_4 : decode cX2_hasRow 4 = .ok (.iload_n 1, 1) := by decide +kernel
theorem dX2_hasRow_5 : decode cX2_hasRow 5 = .ok (.iaload, 1) := by decide +kernel
theorem dX2_hasRow_6 : decode cX2_hasRow 6 = .ok (.ifCond .lt 17, 3) := by decide +kernel
theorem dX2_hasRow_23 : decode cX2_hasRow 23 = .ok (.iconst 0, 1) := by decide +kernel
theorem dX2_hasRow_24 : decode cX2_hasRow 24 = .ok (.ireturn, 1) := by decide +kernel
theorem dX2_hasRule_0 : decode cX2_hasRule 0 = .ok (.aload_n 0, 1) := by decide +kernel
theorem dX2_hasRule_1 : decode cX2_hasRule 1 = .ok (.getfield 9, 3) := by decide +kernel
theorem dX2_hasRule_4 : decode cX2_hasRule 4 = .ok (.iload_n 1, 1) := by decide +kernel
theorem dX2_hasRule_5 : decode cX2_hasRule 5 = .ok (.iaload, 1) := by decide +kernel
theorem dX2_hasRule_6 : decode cX2_hasRule 6 = .ok (.bipush 10, 2) := by decide +kernel
theorem dX2_hasRule_8 : decode cX2_hasRule 8 = .ok (.if_icmp .lt 7, 3) := by decide +kernel
theorem dX2_hasRule_15 : decode cX2_hasRule 15 = .ok (.iconst 0, 1) := by decide +kernel
theorem dX2_hasRule_16 : decode cX2_hasRule 16 = .ok (.ireturn, 1) := by decide +kernel
theorem dX2_putRule_0 : decode cX2_putRule 0 = .ok (.aload_n 0, 1) := by decide +kernel
theorem dX2_putRule_1 : decode cX2_putRule 1 = .ok (.getfield 9, 3) := by decide +kernel
theorem dX2_putRule_4 : decode cX2_putRule 4 = .ok (.iload_n 1, 1) := by decide +kernel
theorem dX2_putRule_5 : decode cX2_putRule 5 = .ok (.bipush 10, 2) := by decide +kernel
theorem dX2_putRule_7 : decode cX2_putRule 7 = .ok (.iload_n 2, 1) := by decide +kernel
theorem dX2_putRule_8 : decode cX2_putRule 8 = .ok (.iadd, 1) := by decide +kernel
theorem dX2_putRule_9 : decode cX2_putRule 9 = .ok (.iastore, 1) := by decide +kernel
theorem dX2_putRule_10 : decode cX2_putRule 10 = .ok (.aload_n 0, 1) := by decide +kernel
theorem dX2_putRule_11 : decode cX2_putRule 11 = .ok (.getfield 18, 3) := by decide +kernel
theorem dX2_putRule_14 : decode cX2_putRule 14 = .ok (.iload_n 1, 1) := by decide +kernel
theorem dX2_putRule_15 : decode cX2_putRule 15 = .ok (.iload_n 3, 1) := by decide +kernel
theorem dX2_putRule_16 : decode cX2_putRule 16 = .ok (.iastore, 1) := by decide +kernel
theorem dX2_putRule_17 : decode cX2_putRule 17 = .ok (.return_, 1) := by decide +kernel
theorem dX4_addBook_0 : decode cX4_addBook 0 = .ok (.aload_n 0, 1) := by decide +kernel
theorem dX4_addBook_1 : decode cX4_addBook 1 = .ok (.getfield 40, 3) := by decide +kernel
theorem dX4_addBook_4 : decode cX4_addBook 4 = .ok (.istore_n 3, 1) := by decide +kernel
theorem dX4_addBook_5 : decode cX4_addBook 5 = .ok (.aload_n 0, 1) := by decide +kernel
theorem dX4_addBook_6 : decode cX4_addBook 6 = .ok (.getfield 15, 3) := by decide +kernel
theorem dX4_addBook_9 : decode cX4_addBook 9 = .ok (.iload_n 3, 1) := by decide +kernel
theorem dX4_addBook_10 : decode cX4_addBook 10 = .ok (.iload_n 1, 1) := by decide +kernel
theorem dX4_addBook_11 : decode cX4_addBook 11 = .ok (.iastore, 1) := by decide +kernel
theorem dX4_addBook_12 : decode cX4_addBook 12 = .ok (.aload_n 0, 1) := by decide +kernel
theorem dX4_addBook_13 : decode cX4_addBook 13 = .ok (.getfield 19, 3) := by decide +kernel
theorem dX4_addBook_16 : decode cX4_addBook 16 = .ok (.iload_n 3, 1) := by decide +kernel
theorem dX4_addBook_17 : decode cX4_addBook 17 = .ok (.iload_n 2, 1) := by decide +kernel
theorem dX4_addBook_18 : decode cX4_addBook 18 = .ok (.iastore, 1) := by decide +kernel
theorem dX4_addBook_19 : decode cX4_addBook 19 = .ok (.aload_n 0, 1) := by decide +kernel
theorem dX4_addBook_20 : decode cX4_addBook 20 = .ok (.getfield 22, 3) := by decide +kernel
theorem dX4_addBook_23 : decode cX4_addBook 23 = .ok (.iload_n 3, 1) := by decide +kernel
theorem dX4_addBook_24 : decode cX4_addBook 24 = .ok (.sipush 1000, 3) := by decide +kernel
theorem dX4_addBook_27 : decode cX4_addBook 27 = .ok (.iastore, 1) := by decide +kernel
theorem dX4_addBook_28 : decode cX4_addBook 28 = .ok (.aload_n 0, 1) := by decide +kernel
theorem dX4_addBook_29 : decode cX4_addBook 29 = .ok (.dup, 1) := by decide +kernel
theorem dX4_addBook_30 : decode cX4_addBook 30 = .ok (.getfield 40, 3) := by decide +kernel
theorem dX4_addBook_33 : decode cX4_addBook 33 = .ok (.iconst 1, 1) := by decide +kernel
theorem dX4_addBook_34 : decode cX4_addBook 34 = .ok (.iadd, 1) := by decide +kernel
theorem dX4_addBook_35 : decode cX4_addBook 35 = .ok (.putfield 40, 3) := by decide +kernel
theorem dX4_addBook_38 : decode cX4_addBook 38 = .ok (.iload_n 3, 1) := by decide +kernel
theorem dX4_addBook_39 : decode cX4_addBook 39 = .ok (.ireturn, 1) := by decide +kernel
theorem dX4_addOne_0 : decode cX4_addOne 0 = .ok (.aload_n 0, 1) := by decide +kernel
theorem dX4_addOne_1 : decode cX4_addOne 1 = .ok (.getfield 43, 3) := by decide +kernel
theorem dX4_addOne_4 : decode cX4_addOne 4 = .ok (.istore 5, 2) := by decide +kernel
theorem dX4_addOne_6 : decode cX4_addOne 6 = .ok (.aload_n 0, 1) := by decide +kernel
theorem dX4_addOne_7 : decode cX4_addOne 7 = .ok (.getfield 25, 3) := by decide +kernel
theorem dX4_addOne_10 : decode cX4_addOne 10 = .ok (.iload 5, 2) := by decide +kernel
theorem dX4_addOne_12 : decode cX4_addOne 12 = .ok (.iload_n 1, 1) := by decide +kernel
theorem dX4_addOne_13 : decode cX4_addOne 13 = .ok (.iastore, 1) := by decide +kernel
theorem dX4_addOne_14 : decode cX4_addOne 14 = .ok (.aload_n 0, 1) := by decide +kernel
theorem dX4_addOne_15 : decode cX4_addOne 15 = .ok (.getfield 28, 3) := by decide +kernel
theorem dX4_addOne_18 : decode cX4_addOne 18 = .ok (.iload 5, 2) := by decide +kernel
theorem dX4_addOne_20 : decode cX4_addOne 20 = .ok (.iload_n 2, 1) := by decide +kernel
theorem dX4_addOne_21 : decode cX4_addOne 21 = .ok (.iastore, 1) := by decide +kernel
theorem dX4_addOne_22 : decode cX4_addOne 22 = .ok (.aload_n 0, 1) := by decide +kernel
theorem dX4_addOne_23 : decode cX4_addOne 23 = .ok (.getfield 31, 3) := by decide +kernel
theorem dX4_addOne_26 : decode cX4_addOne 26 = .ok (.iload 5, 2) := by decide +kernel
theorem dX4_addOne_28 : decode cX4_addOne 28 = .ok (.iload_n 3, 1) := by decide +kernel
theorem dX4_addOne_29 : decode cX4_addOne 29 = .ok (.iastore, 1) := by decide +kernel
theorem dX4_addOne_30 : decode cX4_addOne 30 = .ok (.aload_n 0, 1) := by decide +kernel
theorem dX4_addOne_31 : decode cX4_addOne 31 = .ok (.getfield 34, 3) := by decide +kernel
theorem dX4_addOne_34 : decode cX4_addOne 34 = .ok (.iload 5, 2) := by decide +kernel
theorem dX4_addOne_36 : decode cX4_addOne 36 = .ok (.iload 4, 2) := by decide +kernel
theorem dX4_addOne_38 : decode cX4_addOne 38 = .ok (.iastore, 1) := by decide +kernel
theorem dX4_addOne_39 : decode cX4_addOne 39 = .ok (.aload_n 0, 1) := by decide +kernel
theorem dX4_addOne_40 : decode cX4_addOne 40 = .ok (.dup, 1) := by decide +kernel
theorem dX4_addOne_41 : decode cX4_addOne 41 = .ok (.getfield 43, 3) := by decide +kernel
theorem dX4_addOne_44 : decode cX4_addOne 44 = .ok (.iconst 1, 1) := by decide +kernel
theorem dX4_addOne_45 : decode cX4_addOne 45 = .ok (.iadd, 1) := by decide +kernel
theorem dX4_addOne_46 : decode cX4_addOne 46 = .ok (.putfield 43, 3) := by decide +kernel
theorem dX4_addOne_49 : decode cX4_addOne 49 = .ok (.iload 5, 2) := by decide +kernel
theorem dX4_addOne_51 : decode cX4_addOne 51 = .ok (.ireturn, 1) := by decide +kernel
theorem dX4_afterTelling_0 : decode cX4_afterTelling 0 = .ok (.iload_n 0, 1) := by decide +kernel
theorem dX4_afterTelling_1 : decode cX4_afterTelling 1 = .ok (.iload_n 1, 1) := by decide +kernel
theorem dX4_afterTelling_2 : decode cX4_afterTelling 2 = .ok (.imul, 1) := by decide +kernel
theorem dX4_afterTelling_3 : decode cX4_afterTelling 3 = .ok (.bipush 10, 2) := by decide +kernel
theorem dX4_afterTelling_5 : decode cX4_afterTelling 5 = .ok (.idiv, 1) := by decide +kernel
theorem dX4_afterTelling_6 : decode cX4_afterTelling 6 = .ok (.ireturn, 1) := by decide +kernel
theorem dX4_become_0 : decode cX4_become 0 = .ok (.aload_n 0, 1) := by decide +kernel
theorem dX4_become_1 : decode cX4_become 1 = .ok (.aload_n 1, 1) := by decide +kernel
theorem dX4_become_2 : decode cX4_become 2 = .ok (.getfield 40, 3) := by decide +kernel
theorem dX4_become_5 : decode cX4_become 5 = .ok (.putfield 40, 3) := by decide +kernel
theorem dX4_become_8 : decode cX4_become 8 = .ok (.aload_n 0, 1) := by decide +kernel
theorem dX4_become_9 : decode cX4_become 9 = .ok (.aload_n 1, 1) := by decide +kernel
theorem dX4_become_10 : decode cX4_become 10 = .ok (.getfield 43, 3) := by decide +kernel
theorem dX4_become_13 : decode cX4_become 13 = .ok (.putfield 43, 3) := by decide +kernel
theorem dX4_become_16 : decode cX4_become 16 = .ok (.aload_n 0, 1) := by decide +kernel
theorem dX4_become_17 : decode cX4_become 17 = .ok (.aload_n 1, 1) := by decide +kernel
theorem dX4_become_18 : decode cX4_become 18 = .ok (.getfield 46, 3) := by decide +kernel
theorem dX4_become_21 : decode cX4_become 21 = .ok (.putfield 46, 3) := by decide +kernel
theorem dX4_become_24 : decode cX4_become 24 = .ok (.aload_n 0, 1) := by decide +kernel
theorem dX4_become_25 : decode cX4_become 25 = .ok (.aload_n 1, 1) := by decide +kernel
theorem dX4_become_26 : decode cX4_become 26 = .ok (.getfield 49, 3) := by decide +kernel
theorem dX4_become_29 : decode cX4_become 29 = .ok (.putfield 49, 3) := by decide +kernel
theorem dX4_become_32 : decode cX4_become 32 = .ok (.aload_n 0, 1) := by decide +kernel
theorem dX4_become_33 : decode cX4_become 33 = .ok (.aload_n 1, 1) := by decide +kernel
theorem dX4_become_34 : decode cX4_become 34 = .ok (.getfield 9, 3) := by decide +kernel
theorem dX4_become_37 : decode cX4_become 37 = .ok (.putfield 9, 3) := by decide +kernel
theorem dX4_become_40 : decode cX4_become 40 = .ok (.aload_n 1, 1) := by decide +kernel
theorem dX4_become_41 : decode cX4_become 41 = .ok (.getfield 15, 3) := by decide +kernel
theorem dX4_become_44 : decode cX4_become 44 = .ok (.iconst 0, 1) := by decide +kernel
theorem dX4_become_45 : decode cX4_become 45 = .ok (.aload_n 0, 1) := by decide +kernel
theorem dX4_become_46 : decode cX4_become 46 = .ok (.getfield 15, 3) := by decide +kernel
theorem dX4_become_49 : decode cX4_become 49 = .ok (.iconst 0, 1) := by decide +kernel
theorem dX4_become_50 : decode cX4_become 50 = .ok (.bipush 8, 2) := by decide +kernel
theorem dX4_become_52 : decode cX4_become 52 = .ok (.invokestatic 52, 3) := by decide +kernel
theorem dX4_become_55 : decode cX4_become 55 = .ok (.aload_n 1, 1) := by decide +kernel
theorem dX4_become_56 : decode cX4_become 56 = .ok (.getfield 19, 3) := by decide +kernel
theorem dX4_become_59 : decode cX4_become 59 = .ok (.iconst 0, 1) := by decide +kernel
theorem dX4_become_60 : decode cX4_become 60 = .ok (.aload_n 0, 1) := by decide +kernel
theorem dX4_become_61 : decode cX4_become 61 = .ok (.getfield 19, 3) := by decide +kernel
theorem dX4_become_64 : decode cX4_become 64 = .ok (.iconst 0, 1) := by decide +kernel
theorem dX4_become_65 : decode cX4_become 65 = .ok (.bipush 8, 2) := by decide +kernel
theorem dX4_become_67 : decode cX4_become 67 = .ok (.invokestatic 52, 3) := by decide +kernel
theorem dX4_become_70 : decode cX4_become 70 = .ok (.aload_n 1, 1) := by decide +kernel
theorem dX4_become_71 : decode cX4_become 71 = .ok (.getfield 22, 3) := by decide +kernel
theorem dX4_become_74 : decode cX4_become 74 = .ok (.iconst 0, 1) := by decide +kernel
theorem dX4_become_75 : decode cX4_become 75 = .ok (.aload_n 0, 1) := by decide +kernel
theorem dX4_become_76 : decode cX4_become 76 = .ok (.getfield 22, 3) := by decide +kernel
theorem dX4_become_79 : decode cX4_become 79 = .ok (.iconst 0, 1) := by decide +kernel
theorem dX4_become_80 : decode cX4_become 80 = .ok (.bipush 8, 2) := by decide +kernel
theorem dX4_become_82 : decode cX4_become 82 = .ok (.invokestatic 52, 3) := by decide +kernel
theorem dX4_become_85 : decode cX4_become 85 = .ok (.aload_n 1, 1) := by decide +kernel
theorem dX4_become_86 : decode cX4_become 86 = .ok (.getfield 25, 3) := by decide +kernel
theorem dX4_become_89 : decode cX4_become 89 = .ok (.iconst 0, 1) := by decide +kernel
theorem dX4_become_90 : decode cX4_become 90 = .ok (.aload_n 0, 1) := by decide +kernel
theorem dX4_become_91 : decode cX4_become 91 = .ok (.getfield 25, 3) := by decide +kernel
theorem dX4_become_94 : decode cX4_become 94 = .ok (.iconst 0, 1) := by decide +kernel
theorem dX4_become_95 : decode cX4_become 95 = .ok (.bipush 8, 2) := by decide +kernel
theorem dX4_become_97 : decode cX4_become 97 = .ok (.invokestatic 52, 3) := by decide +kernel
theorem dX4_become_100 : decode cX4_become 100 = .ok (.aload_n 1, 1) := by decide +kernel
theorem dX4_become_101 : decode cX4_become 101 = .ok (.getfield 28, 3) := by decide +kernel
theorem dX4_become_104 : decode cX4_become 104 = .ok (.iconst 0, 1) := by decide +kernel
theorem dX4_become_105 : decode cX4_become 105 = .ok (.aload_n 0, 1) := by decide +kernel
theorem dX4_become_106 : decode cX4_become 106 = .ok (.getfield 28, 3) := by decide +kernel
theorem dX4_become_109 : decode cX4_become 109 = .ok (.iconst 0, 1) := by decide +kernel
theorem dX4_become_110 : decode cX4_become 110 = .ok (.bipush 8, 2) := by decide +kernel
theorem dX4_become_112 : decode cX4_become 112 = .ok (.invokestatic 52, 3) := by decide +kernel
theorem dX4_become_115 : decode cX4_become 115 = .ok (.aload_n 1, 1) := by decide +kernel
theorem dX4_become_116 : decode cX4_become 116 = .ok (.getfield 31, 3) := by decide +kernel
theorem dX4_become_119 : decode cX4_become 119 = .ok (.iconst 0, 1) := by decide +kernel
theorem dX4_become_120 : decode cX4_become 120 = .ok (.aload_n 0, 1) := by decide +kernel
theorem dX4_become_121 : decode cX4_become 121 = .ok (.getfield 31, 3) := by decide +kernel
theorem dX4_become_124 : decode cX4_become 124 = .ok (.iconst 0, 1) := by decide +kernel
theorem dX4_become_125 : decode cX4_become 125 = .ok (.bipush 8, 2) := by decide +kernel
theorem dX4_become_127 : decode cX4_become 127 = .ok (.invokestatic 52, 3) := by decide +kernel
theorem dX4_become_130 : decode cX4_become 130 = .ok (.aload_n 1, 1) := by decide +kernel
theorem dX4_become_131 : decode cX4_become 131 = .ok (.getfield 34, 3) := by decide +kernel
theorem dX4_become_134 : decode cX4_become 134 = .ok (.iconst 0, 1) := by decide +kernel
theorem dX4_become_135 : decode cX4_become 135 = .ok (.aload_n 0, 1) := by decide +kernel
theorem dX4_become_136 : decode cX4_become 136 = .ok (.getfield 34, 3) := by decide +kernel
theorem dX4_become_139 : decode cX4_become 139 = .ok (.iconst 0, 1) := by decide +kernel
theorem dX4_become_140 : decode cX4_become 140 = .ok (.bipush 8, 2) := by decide +kernel
theorem dX4_become_142 : decode cX4_become 142 = .ok (.invokestatic 52, 3) := by decide +kernel
theorem dX4_become_145 : decode cX4_become 145 = .ok (.aload_n 1, 1) := by decide +kernel
theorem dX4_become_146 : decode cX4_become 146 = .ok (.getfield 37, 3) := by decide +kernel
theorem dX4_become_149 : decode cX4_become 149 = .ok (.iconst 0, 1) := by decide +kernel
theorem dX4_become_150 : decode cX4_become 150 = .ok (.aload_n 0, 1) := by decide +kernel
theorem dX4_become_151 : decode cX4_become 151 = .ok (.getfield 37, 3) := by decide +kernel
theorem dX4_become_154 : decode cX4_become 154 = .ok (.iconst 0, 1) := by decide +kernel
theorem dX4_become_155 : decode cX4_become 155 = .ok (.bipush 64, 2) := by decide +kernel
theorem dX4_become_157 : decode cX4_become 157 = .ok (.invokestatic 52, 3) := by decide +kernel
theorem dX4_become_160 : decode cX4_become 160 = .ok (.return_, 1) := by decide +kernel
theorem dX4_booksKnown_0 : decode cX4_booksKnown 0 = .ok (.iconst 0, 1) := by decide +kernel
theorem dX4_booksKnown_1 : decode cX4_booksKnown 1 = .ok (.istore_n 3, 1) := by decide +kernel
theorem dX4_booksKnown_2 : decode cX4_booksKnown 2 = .ok (.iconst 0, 1) := by decide +kernel
theorem dX4_booksKnown_3 : decode cX4_booksKnown 3 = .ok (.istore 4, 2) := by decide +kernel
theorem dX4_booksKnown_5 : decode cX4_booksKnown 5 = .ok (.iload 4, 2) := by decide +kernel
theorem dX4_booksKnown_7 : decode cX4_booksKnown 7 = .ok (.aload_n 0, 1) := by decide +kernel
theorem dX4_booksKnown_8 : decode cX4_booksKnown 8 = .ok (.getfield 40, 3) := by decide +kernel
theorem dX4_booksKnown_11 : decode cX4_booksKnown 11 = .ok (.if_icmp .ge 27, 3) := by decide +kernel
theorem dX4_booksKnown_38 : decode cX4_booksKnown 38 = .ok (.iload_n 3, 1) := by decide +kernel
theorem dX4_booksKnown_39 : decode cX4_booksKnown 39 = .ok (.ireturn, 1) := by decide +kernel
theorem dX4_endYear_0 : decode cX4_endYear 0 = .ok (.aload_n 0, 1) := by decide +kernel
theorem dX4_endYear_1 : decode cX4_endYear 1 = .ok (.invokevirtual 78, 3) := by decide +kernel
theorem dX4_endYear_4 : decode cX4_endYear 4 = .ok (.istore_n 1, 1) := by decide +kernel
theorem dX4_endYear_5 : decode cX4_endYear 5 = .ok (.iconst 0, 1) := by decide +kernel
theorem dX4_endYear_6 : decode cX4_endYear 6 = .ok (.istore_n 2, 1) := by decide +kernel
theorem dX4_endYear_7 : decode cX4_endYear 7 = .ok (.iload_n 2, 1) := by decide +kernel
theorem dX4_endYear_8 : decode cX4_endYear 8 = .ok (.aload_n 0, 1) := by decide +kernel
theorem dX4_endYear_9 : decode cX4_endYear 9 = .ok (.getfield 43, 3) := by decide +kernel
theorem dX4_endYear_12 : decode cX4_endYear 12 = .ok (.if_icmp .ge 55, 3) := by decide +kernel
theorem dX4_endYear_67 : decode cX4_endYear 67 = .ok (.iload_n 1, 1) := by decide +kernel
theorem dX4_endYear_68 : decode cX4_endYear 68 = .ok (.aload_n 0, 1) := by decide +kernel
theorem dX4_endYear_69 : decode cX4_endYear 69 = .ok (.getfield 49, 3) := by decide +kernel
theorem dX4_endYear_72 : decode cX4_endYear 72 = .ok (.iand, 1) := by decide +kernel
theorem dX4_endYear_73 : decode cX4_endYear 73 = .ok (.invokestatic 115, 3) := by decide +kernel
theorem dX4_endYear_76 : decode cX4_endYear 76 = .ok (.ireturn, 1) := by decide +kernel
theorem dX4_isBook_0 : decode cX4_isBook 0 = .ok (.iload_n 1, 1) := by decide +kernel
theorem dX4_isBook_1 : decode cX4_isBook 1 = .ok (.ifCond .lt 15, 3) := by decide +kernel
theorem dX4_isBook_4 : decode cX4_isBook 4 = .ok (.iload_n 1, 1) := by decide +kernel
theorem dX4_isBook_5 : decode cX4_isBook 5 = .ok (.aload_n 0, 1) := by decide +kernel
theorem dX4_isBook_6 : decode cX4_isBook 6 = .ok (.getfield 40, 3) := by decide +kernel
theorem dX4_isBook_9 : decode cX4_isBook 9 = .ok (.if_icmp .ge 7, 3) := by decide +kernel
theorem dX4_isBook_16 : decode cX4_isBook 16 = .ok (.iconst 0, 1) := by decide +kernel
theorem dX4_isBook_17 : decode cX4_isBook 17 = .ok (.ireturn, 1) := by decide +kernel
theorem dX4_isOne_0 : decode cX4_isOne 0 = .ok (.iload_n 1, 1) := by decide +kernel
theorem dX4_isOne_1 : decode cX4_isOne 1 = .ok (.ifCond .lt 15, 3) := by decide +kernel
theorem dX4_isOne_4 : decode cX4_isOne 4 = .ok (.iload_n 1, 1) := by decide +kernel
theorem dX4_isOne_5 : decode cX4_isOne 5 = .ok (.aload_n 0, 1) := by decide +kernel
theorem dX4_isOne_6 : decode cX4_isOne 6 = .ok (.getfield 43, 3) := by decide +kernel
theorem dX4_isOne_9 : decode cX4_isOne 9 = .ok (.if_icmp .ge 7, 3) := by decide +kernel
theorem dX4_isOne_16 : decode cX4_isOne 16 = .ok (.iconst 0, 1) := by decide +kernel
theorem dX4_isOne_17 : decode cX4_isOne 17 = .ok (.ireturn, 1) := by decide +kernel
theorem dX4_setThere_0 : decode cX4_setThere 0 = .ok (.aload_n 0, 1) := by decide +kernel
theorem dX4_setThere_1 : decode cX4_setThere 1 = .ok (.getfield 43, 3) := by decide +kernel
theorem dX4_setThere_4 : decode cX4_setThere 4 = .ok (.invokestatic 58, 3) := by decide +kernel
theorem dX4_setThere_7 : decode cX4_setThere 7 = .ok (.aload_n 0, 1) := by decide +kernel
theorem dX4_setThere_8 : decode cX4_setThere 8 = .ok (.getfield 49, 3) := by decide +kernel
theorem dX4_setThere_11 : decode cX4_setThere 11 = .ok (.iconst (-1), 1) := by decide +kernel
theorem dX4_setThere_12 : decode cX4_setThere 12 = .ok (.ixor, 1) := by decide +kernel
theorem dX4_setThere_13 : decode cX4_setThere 13 = .ok (.iand, 1) := by decide +kernel
theorem dX4_setThere_14 : decode cX4_setThere 14 = .ok (.ireturn, 1) := by decide +kernel
theorem dX4_worthAmong_0 : decode cX4_worthAmong 0 = .ok (.iconst 0, 1) := by decide +kernel
theorem dX4_worthAmong_1 : decode cX4_worthAmong 1 = .ok (.istore_n 2, 1) := by decide +kernel
theorem dX4_worthAmong_2 : decode cX4_worthAmong 2 = .ok (.iconst 0, 1) := by decide +kernel
theorem dX4_worthAmong_3 : decode cX4_worthAmong 3 = .ok (.istore_n 3, 1) := by decide +kernel
theorem dX4_worthAmong_4 : decode cX4_worthAmong 4 = .ok (.iload_n 3, 1) := by decide +kernel
theorem dX4_worthAmong_5 : decode cX4_worthAmong 5 = .ok (.aload_n 0, 1) := by decide +kernel
theorem dX4_worthAmong_6 : decode cX4_worthAmong 6 = .ok (.getfield 40, 3) := by decide +kernel
theorem dX4_worthAmong_9 : decode cX4_worthAmong 9 = .ok (.if_icmp .ge 25, 3) := by decide +kernel
theorem dX4_worthAmong_34 : decode cX4_worthAmong 34 = .ok (.iload_n 2, 1) := by decide +kernel
theorem dX4_worthAmong_35 : decode cX4_worthAmong 35 = .ok (.ireturn, 1) := by decide +kernel
theorem dX4_worthNow_0 : decode cX4_worthNow 0 = .ok (.aload_n 0, 1) := by decide +kernel
theorem dX4_worthNow_1 : decode cX4_worthNow 1 = .ok (.aload_n 0, 1) := by decide +kernel
theorem dX4_worthNow_2 : decode cX4_worthNow 2 = .ok (.invokevirtual 78, 3) := by decide +kernel
theorem dX4_worthNow_5 : decode cX4_worthNow 5 = .ok (.invokevirtual 82, 3) := by decide +kernel
theorem dX4_worthNow_8 : decode cX4_worthNow 8 = .ok (.ireturn, 1) := by decide +kernel
theorem dX5_canBeOne_0 : decode cX5_canBeOne 0 = .ok (.lload_n 0, 1) := by decide +kernel
theorem dX5_canBeOne_1 : decode cX5_canBeOne 1 = .ok (.lconst 0, 1) := by decide +kernel
theorem dX5_canBeOne_2 : decode cX5_canBeOne 2 = .ok (.ldc2_w 357, 3) := by decide +kernel
theorem dX5_canBeOne_5 : decode cX5_canBeOne 5 = .ok (.invokestatic 50, 3) := by decide +kernel
theorem dX5_canBeOne_8 : decode cX5_canBeOne 8 = .ok (.ifCond .eq 42, 3) := by decide +kernel
theorem dX5_canBeOne_11 : decode cX5_canBeOne 11 = .ok (.lload_n 2, 1) := by decide +kernel
theorem dX5_canBeOne_12 : decode cX5_canBeOne 12 = .ok (.lconst 0, 1) := by decide +kernel
theorem dX5_canBeOne_13 : decode cX5_canBeOne 13 = .ok (.ldc2_w 359, 3) := by decide +kernel
theorem dX5_canBeOne_16 : decode cX5_canBeOne 16 = .ok (.invokestatic 50, 3) := by decide +kernel
theorem dX5_canBeOne_19 : decode cX5_canBeOne 19 = .ok (.ifCond .eq 31, 3) := by decide +kernel
theorem dX5_canBeOne_22 : decode cX5_canBeOne 22 = .ok (.lload 4, 2) := by decide +kernel
theorem dX5_canBeOne_24 : decode cX5_canBeOne 24 = .ok (.lconst 0, 1) := by decide +kernel
theorem dX5_canBeOne_25 : decode cX5_canBeOne 25 = .ok (.ldc2_w 359, 3) := by decide +kernel
theorem dX5_canBeOne_28 : decode cX5_canBeOne 28 = .ok (.invokestatic 50, 3) := by decide +kernel
theorem dX5_canBeOne_31 : decode cX5_canBeOne 31 = .ok (.ifCond .eq 19, 3) := by decide +kernel
theorem dX5_canBeOne_34 : decode cX5_canBeOne 34 = .ok (.lload 6, 2) := by decide +kernel
theorem dX5_canBeOne_36 : decode cX5_canBeOne 36 = .ok (.lconst 0, 1) := by decide +kernel
theorem dX5_canBeOne_37 : decode cX5_canBeOne 37 = .ok (.ldc2_w 359, 3) := by decide +kernel
theorem dX5_canBeOne_40 : decode cX5_canBeOne 40 = .ok (.invokestatic 50, 3) := by decide +kernel
theorem dX5_canBeOne_43 : decode cX5_canBeOne 43 = .ok (.ifCond .eq 7, 3) := by decide +kernel
theorem dX5_canBeOne_46 : decode cX5_canBeOne 46 = .ok (.iconst 1, 1) := by decide +kernel
theorem dX5_canBeOne_47 : decode cX5_canBeOne 47 = .ok (.goto 4, 3) := by decide +kernel
theorem dX5_canBeOne_50 : decode cX5_canBeOne 50 = .ok (.iconst 0, 1) := by decide +kernel
theorem dX5_canBeOne_51 : decode cX5_canBeOne 51 = .ok (.ireturn, 1) := by decide +kernel
theorem dX5_canBeTold_0 : decode cX5_canBeTold 0 = .ok (.iload_n 0, 1) := by decide +kernel
theorem dX5_canBeTold_1 : decode cX5_canBeTold 1 = .ok (.i2l, 1) := by decide +kernel
theorem dX5_canBeTold_2 : decode cX5_canBeTold 2 = .ok (.lconst 0, 1) := by decide +kernel
theorem dX5_canBeTold_3 : decode cX5_canBeTold 3 = .ok (.ldc2_w 216, 3) := by decide +kernel
theorem dX5_canBeTold_6 : decode cX5_canBeTold 6 = .ok (.invokestatic 50, 3) := by decide +kernel
theorem dX5_canBeTold_9 : decode cX5_canBeTold 9 = .ok (.ifCond .eq 19, 3) := by decide +kernel
theorem dX5_canBeTold_12 : decode cX5_canBeTold 12 = .ok (.iload_n 1, 1) := by decide +kernel
theorem dX5_canBeTold_13 : decode cX5_canBeTold 13 = .ok (.i2l, 1) := by decide +kernel
theorem dX5_canBeTold_14 : decode cX5_canBeTold 14 = .ok (.lconst 0, 1) := by decide +kernel
theorem dX5_canBeTold_15 : decode cX5_canBeTold 15 = .ok (.ldc2_w 359, 3) := by decide +kernel
theorem dX5_canBeTold_18 : decode cX5_canBeTold 18 = .ok (.invokestatic 50, 3) := by decide +kernel
theorem dX5_canBeTold_21 : decode cX5_canBeTold 21 = .ok (.ifCond .eq 7, 3) := by decide +kernel
theorem dX5_canBeTold_24 : decode cX5_canBeTold 24 = .ok (.iconst 1, 1) := by decide +kernel
theorem dX5_canBeTold_25 : decode cX5_canBeTold 25 = .ok (.goto 4, 3) := by decide +kernel
theorem dX5_canBeTold_28 : decode cX5_canBeTold 28 = .ok (.iconst 0, 1) := by decide +kernel
theorem dX5_canBeTold_29 : decode cX5_canBeTold 29 = .ok (.ireturn, 1) := by decide +kernel
theorem dX5_copyFit_0 : decode cX5_copyFit 0 = .ok (.iload_n 1, 1) := by decide +kernel
theorem dX5_copyFit_1 : decode cX5_copyFit 1 = .ok (.invokestatic 44, 3) := by decide +kernel
theorem dX5_copyFit_4 : decode cX5_copyFit 4 = .ok (.ifCond .eq 10, 3) := by decide +kernel
theorem dX5_copyFit_7 : decode cX5_copyFit 7 = .ok (.iload_n 2, 1) := by decide +kernel
theorem dX5_copyFit_8 : decode cX5_copyFit 8 = .ok (.invokestatic 44, 3) := by decide +kernel
theorem dX5_copyFit_11 : decode cX5_copyFit 11 = .ok (.ifCond .ne 6, 3) := by decide +kernel
theorem dX5_copyFit_14 : decode cX5_copyFit 14 = .ok (.bipush (-2), 2) := by decide +kernel
theorem dX5_copyFit_16 : decode cX5_copyFit 16 = .ok (.ireturn, 1) := by decide +kernel
theorem dX5_copyFit_17 : decode cX5_copyFit 17 = .ok (.aload_n 0, 1) := by decide +kernel
theorem dX5_copyFit_18 : decode cX5_copyFit 18 = .ok (.getfield 29, 3) := by decide +kernel
theorem dX5_copyFit_21 : decode cX5_copyFit 21 = .ok (.iload_n 1, 1) := by decide +kernel
theorem dX5_copyFit_22 : decode cX5_copyFit 22 = .ok (.invokevirtual 361, 3) := by decide +kernel
theorem dX5_copyFit_25 : decode cX5_copyFit 25 = .ok (.ifCond .ne 14, 3) := by decide +kernel
theorem dX5_copyFit_28 : decode cX5_copyFit 28 = .ok (.aload_n 0, 1) := by decide +kernel
theorem dX5_copyFit_29 : decode cX5_copyFit 29 = .ok (.getfield 29, 3) := by decide +kernel
theorem dX5_copyFit_32 : decode cX5_copyFit 32 = .ok (.iload_n 2, 1) := by decide +kernel
theorem dX5_copyFit_33 : decode cX5_copyFit 33 = .ok (.invokevirtual 361, 3) := by decide +kernel
theorem dX5_copyFit_36 : decode cX5_copyFit 36 = .ok (.ifCond .eq 6, 3) := by decide +kernel
theorem dX5_copyFit_42 : decode cX5_copyFit 42 = .ok (.aload_n 0, 1) := by decide +kernel
theorem dX5_copyFit_43 : decode cX5_copyFit 43 = .ok (.getfield 29, 3) := by decide +kernel
theorem dX5_copyFit_46 : decode cX5_copyFit 46 = .ok (.iload_n 1, 1) := by decide +kernel
theorem dX5_copyFit_47 : decode cX5_copyFit 47 = .ok (.invokevirtual 364, 3) := by decide +kernel
theorem dX5_copyFit_50 : decode cX5_copyFit 50 = .ok (.ifCond .eq 14, 3) := by decide +kernel
theorem dX5_copyFit_64 : decode cX5_copyFit 64 = .ok (.bipush (-4), 2) := by decide +kernel
theorem dX5_copyFit_66 : decode cX5_copyFit 66 = .ok (.ireturn, 1) := by decide +kernel
theorem dX5_isPair_0 : decode cX5_isPair 0 = .ok (.aload_n 0, 1) := by decide +kernel
theorem dX5_isPair_1 : decode cX5_isPair 1 = .ok (.getfield 10, 3) := by decide +kernel
theorem dX5_isPair_4 : decode cX5_isPair 4 = .ok (.iload_n 1, 1) := by decide +kernel
theorem dX5_isPair_5 : decode cX5_isPair 5 = .ok (.invokevirtual 192, 3) := by decide +kernel
theorem dX5_isPair_8 : decode cX5_isPair 8 = .ok (.ifCond .eq 18, 3) := by decide +kernel
theorem dX5_isPair_26 : decode cX5_isPair 26 = .ok (.iconst 0, 1) := by decide +kernel
theorem dX5_isPair_27 : decode cX5_isPair 27 = .ok (.ireturn, 1) := by decide +kernel
theorem dX5_isSetOf_0 : decode cX5_isSetOf 0 = .ok (.iload_n 0, 1) := by decide +kernel
theorem dX5_isSetOf_1 : decode cX5_isSetOf 1 = .ok (.iload_n 1, 1) := by decide +kernel
theorem dX5_isSetOf_2 : decode cX5_isSetOf 2 = .ok (.invokestatic 186, 3) := by decide +kernel
theorem dX5_isSetOf_5 : decode cX5_isSetOf 5 = .ok (.iconst (-1), 1) := by decide +kernel
theorem dX5_isSetOf_6 : decode cX5_isSetOf 6 = .ok (.ixor, 1) := by decide +kernel
theorem dX5_isSetOf_7 : decode cX5_isSetOf 7 = .ok (.iand, 1) := by decide +kernel
theorem dX5_isSetOf_8 : decode cX5_isSetOf 8 = .ok (.ifCond .ne 7, 3) := by decide +kernel
theorem dX5_isSetOf_11 : decode cX5_isSetOf 11 = .ok (.iconst 1, 1) := by decide +kernel
theorem dX5_isSetOf_12 : decode cX5_isSetOf 12 = .ok (.goto 4, 3) := by decide +kernel
theorem dX5_isSetOf_15 : decode cX5_isSetOf 15 = .ok (.iconst 0, 1) := by decide +kernel
theorem dX5_isSetOf_16 : decode cX5_isSetOf 16 = .ok (.ireturn, 1) := by decide +kernel
theorem dX5_isShelf_0 : decode cX5_isShelf 0 = .ok (.iload_n 0, 1) := by decide +kernel
theorem dX5_isShelf_1 : decode cX5_isShelf 1 = .ok (.i2l, 1) := by decide +kernel
theorem dX5_isShelf_2 : decode cX5_isShelf 2 = .ok (.lconst 0, 1) := by decide +kernel
theorem dX5_isShelf_3 : decode cX5_isShelf 3 = .ok (.ldc2_w 355, 3) := by decide +kernel
theorem dX5_isShelf_6 : decode cX5_isShelf 6 = .ok (.invokestatic 50, 3) := by decide +kernel
theorem dX5_isShelf_9 : decode cX5_isShelf 9 = .ok (.ireturn, 1) := by decide +kernel
theorem dX5_readFit_0 : decode cX5_readFit 0 = .ok (.aload_n 0, 1) := by decide +kernel
theorem dX5_readFit_1 : decode cX5_readFit 1 = .ok (.iload_n 1, 1) := by decide +kernel
theorem dX5_readFit_2 : decode cX5_readFit 2 = .ok (.iload_n 2, 1) := by decide +kernel
theorem dX5_readFit_3 : decode cX5_readFit 3 = .ok (.invokevirtual 210, 3) := by decide +kernel
theorem dX5_readFit_6 : decode cX5_readFit 6 = .ok (.ifCond .ne 6, 3) := by decide +kernel
theorem dX5_readFit_9 : decode cX5_readFit 9 = .ok (.bipush (-2), 2) := by decide +kernel
theorem dX5_readFit_11 : decode cX5_readFit 11 = .ok (.ireturn, 1) := by decide +kernel
theorem dX5_refuse_0 : decode cX5_refuse 0 = .ok (.bipush (-2), 2) := by decide +kernel
theorem dX5_refuse_2 : decode cX5_refuse 2 = .ok (.iload_n 1, 1) := by decide +kernel
theorem dX5_refuse_3 : decode cX5_refuse 3 = .ok (.isub, 1) := by decide +kernel
theorem dX5_refuse_4 : decode cX5_refuse 4 = .ok (.istore_n 2, 1) := by decide +kernel
theorem dX5_refuse_5 : decode cX5_refuse 5 = .ok (.iload_n 2, 1) := by decide +kernel
theorem dX5_refuse_6 : decode cX5_refuse 6 = .ok (.i2l, 1) := by decide +kernel
theorem dX5_refuse_7 : decode cX5_refuse 7 = .ok (.lconst 0, 1) := by decide +kernel
theorem dX5_refuse_8 : decode cX5_refuse 8 = .ok (.aload_n 0, 1) := by decide +kernel
theorem dX5_refuse_9 : decode cX5_refuse 9 = .ok (.getfield 40, 3) := by decide +kernel
theorem dX5_refuse_12 : decode cX5_refuse 12 = .ok (.arraylength, 1) := by decide +kernel
theorem dX5_refuse_13 : decode cX5_refuse 13 = .ok (.iconst 1, 1) := by decide +kernel
theorem dX5_refuse_14 : decode cX5_refuse 14 = .ok (.isub, 1) := by decide +kernel
theorem dX5_refuse_15 : decode cX5_refuse 15 = .ok (.i2l, 1) := by decide +kernel
theorem dX5_refuse_16 : decode cX5_refuse 16 = .ok (.invokestatic 50, 3) := by decide +kernel
theorem dX5_refuse_19 : decode cX5_refuse 19 = .ok (.ifCond .eq 13, 3) := by decide +kernel
theorem dX5_refuse_22 : decode cX5_refuse 22 = .ok (.aload_n 0, 1) := by decide +kernel
theorem dX5_refuse_23 : decode cX5_refuse 23 = .ok (.getfield 40, 3) := by decide +kernel
theorem dX5_refuse_26 : decode cX5_refuse 26 = .ok (.iload_n 2, 1) := by decide +kernel
theorem dX5_refuse_27 : decode cX5_refuse 27 = .ok (.dup2, 1) := by decide +kernel
theorem dX5_refuse_28 : decode cX5_refuse 28 = .ok (.iaload, 1) := by decide +kernel
theorem dX5_refuse_29 : decode cX5_refuse 29 = .ok (.iconst 1, 1) := by decide +kernel
theorem dX5_refuse_30 : decode cX5_refuse 30 = .ok (.iadd, 1) := by decide +kernel
theorem dX5_refuse_31 : decode cX5_refuse 31 = .ok (.iastore, 1) := by decide +kernel
theorem dX5_refuse_32 : decode cX5_refuse 32 = .ok (.iload_n 1, 1) := by decide +kernel
theorem dX5_refuse_33 : decode cX5_refuse 33 = .ok (.ireturn, 1) := by decide +kernel
theorem dX5_rowFit_0 : decode cX5_rowFit 0 = .ok (.iload_n 1, 1) := by decide +kernel
theorem dX5_rowFit_1 : decode cX5_rowFit 1 = .ok (.invokestatic 44, 3) := by decide +kernel
theorem dX5_rowFit_4 : decode cX5_rowFit 4 = .ok (.ifCond .ne 6, 3) := by decide +kernel
theorem dX5_rowFit_7 : decode cX5_rowFit 7 = .ok (.bipush (-2), 2) := by decide +kernel
theorem dX5_rowFit_9 : decode cX5_rowFit 9 = .ok (.ireturn, 1) := by decide +kernel
theorem dX5_rowFit_10 : decode cX5_rowFit 10 = .ok (.aload_n 0, 1) := by decide +kernel
theorem dX5_rowFit_11 : decode cX5_rowFit 11 = .ok (.getfield 29, 3) := by decide +kernel
theorem dX5_rowFit_14 : decode cX5_rowFit 14 = .ok (.iload_n 1, 1) := by decide +kernel
theorem dX5_rowFit_15 : decode cX5_rowFit 15 = .ok (.invokevirtual 361, 3) := by decide +kernel
theorem dX5_rowFit_18 : decode cX5_rowFit 18 = .ok (.ifCond .eq 6, 3) := by decide +kernel
theorem dX5_rowFit_24 : decode cX5_rowFit 24 = .ok (.aload_n 0, 1) := by decide +kernel
theorem dX5_rowFit_25 : decode cX5_rowFit 25 = .ok (.getfield 29, 3) := by decide +kernel
theorem dX5_rowFit_28 : decode cX5_rowFit 28 = .ok (.iload_n 1, 1) := by decide +kernel
theorem dX5_rowFit_29 : decode cX5_rowFit 29 = .ok (.invokevirtual 364, 3) := by decide +kernel
theorem dX5_rowFit_32 : decode cX5_rowFit 32 = .ok (.ifCond .eq 7, 3) := by decide +kernel
theorem dX5_rowFit_39 : decode cX5_rowFit 39 = .ok (.bipush (-4), 2) := by decide +kernel
theorem dX5_rowFit_41 : decode cX5_rowFit 41 = .ok (.ireturn, 1) := by decide +kernel
theorem dX5_ruleFit_0 : decode cX5_ruleFit 0 = .ok (.iload_n 1, 1) := by decide +kernel
theorem dX5_ruleFit_1 : decode cX5_ruleFit 1 = .ok (.invokestatic 44, 3) := by decide +kernel
theorem dX5_ruleFit_4 : decode cX5_ruleFit 4 = .ok (.ifCond .ne 6, 3) := by decide +kernel
theorem dX5_ruleFit_7 : decode cX5_ruleFit 7 = .ok (.bipush (-2), 2) := by decide +kernel
theorem dX5_ruleFit_9 : decode cX5_ruleFit 9 = .ok (.ireturn, 1) := by decide +kernel
theorem dX5_ruleFit_10 : decode cX5_ruleFit 10 = .ok (.aload_n 0, 1) := by decide +kernel
theorem dX5_ruleFit_11 : decode cX5_ruleFit 11 = .ok (.getfield 29, 3) := by decide +kernel
theorem dX5_ruleFit_14 : decode cX5_ruleFit 14 = .ok (.iload_n 1, 1) := by decide +kernel
theorem dX5_ruleFit_15 : decode cX5_ruleFit 15 = .ok (.invokevirtual 364, 3) := by decide +kernel
theorem dX5_ruleFit_18 : decode cX5_ruleFit 18 = .ok (.ifCond .eq 6, 3) := by decide +kernel
theorem dX5_ruleFit_24 : decode cX5_ruleFit 24 = .ok (.aload_n 0, 1) := by decide +kernel
theorem dX5_ruleFit_25 : decode cX5_ruleFit 25 = .ok (.getfield 29, 3) := by decide +kernel
theorem dX5_ruleFit_28 : decode cX5_ruleFit 28 = .ok (.iload_n 1, 1) := by decide +kernel
theorem dX5_ruleFit_29 : decode cX5_ruleFit 29 = .ok (.invokevirtual 361, 3) := by decide +kernel
theorem dX5_ruleFit_32 : decode cX5_ruleFit 32 = .ok (.ifCond .eq 7, 3) := by decide +kernel
theorem dX5_ruleFit_39 : decode cX5_ruleFit 39 = .ok (.bipush (-4), 2) := by decide +kernel
theorem dX5_ruleFit_41 : decode cX5_ruleFit 41 = .ok (.ireturn, 1) := by decide +kernel
theorem dX5_setOfAll_0 : decode cX5_setOfAll 0 = .ok (.iconst 1, 1) := by decide +kernel
theorem dX5_setOfAll_1 : decode cX5_setOfAll 1 = .ok (.iload_n 0, 1) := by decide +kernel
theorem dX5_setOfAll_2 : decode cX5_setOfAll 2 = .ok (.ishl, 1) := by decide +kernel
theorem dX5_setOfAll_3 : decode cX5_setOfAll 3 = .ok (.iconst 1, 1) := by decide +kernel
theorem dX5_setOfAll_4 : decode cX5_setOfAll 4 = .ok (.isub, 1) := by decide +kernel
theorem dX5_setOfAll_5 : decode cX5_setOfAll 5 = .ok (.ireturn, 1) := by decide +kernel
theorem dX5_toldFit_0 : decode cX5_toldFit 0 = .ok (.iload_n 2, 1) := by decide +kernel
theorem dX5_toldFit_1 : decode cX5_toldFit 1 = .ok (.i2l, 1) := by decide +kernel
theorem dX5_toldFit_2 : decode cX5_toldFit 2 = .ok (.lconst 0, 1) := by decide +kernel
theorem dX5_toldFit_3 : decode cX5_toldFit 3 = .ok (.ldc2_w 327, 3) := by decide +kernel
theorem dX5_toldFit_6 : decode cX5_toldFit 6 = .ok (.invokestatic 50, 3) := by decide +kernel
theorem dX5_toldFit_9 : decode cX5_toldFit 9 = .ok (.ifCond .eq 11, 3) := by decide +kernel
theorem dX5_toldFit_12 : decode cX5_toldFit 12 = .ok (.aload_n 0, 1) := by decide +kernel
theorem dX5_toldFit_13 : decode cX5_toldFit 13 = .ok (.iload_n 1, 1) := by decide +kernel
theorem dX5_toldFit_14 : decode cX5_toldFit 14 = .ok (.invokevirtual 64, 3) := by decide +kernel
theorem dX5_toldFit_17 : decode cX5_toldFit 17 = .ok (.goto 5, 3) := by decide +kernel
theorem dX5_toldFit_20 : decode cX5_toldFit 20 = .ok (.bipush (-2), 2) := by decide +kernel
theorem dX5_toldFit_22 : decode cX5_toldFit 22 = .ok (.istore_n 3, 1) := by decide +kernel
theorem dX5_toldFit_23 : decode cX5_toldFit 23 = .ok (.iload_n 3, 1) := by decide +kernel
theorem dX5_toldFit_24 : decode cX5_toldFit 24 = .ok (.ifCond .ne 21, 3) := by decide +kernel
theorem dX5_toldFit_45 : decode cX5_toldFit 45 = .ok (.iload_n 3, 1) := by decide +kernel
theorem dX5_toldFit_46 : decode cX5_toldFit 46 = .ok (.ireturn, 1) := by decide +kernel
theorem dX5_within_0 : decode cX5_within 0 = .ok (.lload_n 0, 1) := by decide +kernel
theorem dX5_within_1 : decode cX5_within 1 = .ok (.lload_n 2, 1) := by decide +kernel
theorem dX5_within_2 : decode cX5_within 2 = .ok (.lcmp, 1) := by decide +kernel
theorem dX5_within_3 : decode cX5_within 3 = .ok (.ifCond .lt 14, 3) := by decide +kernel
theorem dX5_within_6 : decode cX5_within 6 = .ok (.lload_n 0, 1) := by decide +kernel
theorem dX5_within_7 : decode cX5_within 7 = .ok (.lload 4, 2) := by decide +kernel
theorem dX5_within_9 : decode cX5_within 9 = .ok (.lcmp, 1) := by decide +kernel
theorem dX5_within_10 : decode cX5_within 10 = .ok (.ifCond .gt 7, 3) := by decide +kernel
theorem dX5_within_13 : decode cX5_within 13 = .ok (.iconst 1, 1) := by decide +kernel
theorem dX5_within_14 : decode cX5_within 14 = .ok (.goto 4, 3) := by decide +kernel
theorem dX5_within_17 : decode cX5_within 17 = .ok (.iconst 0, 1) := by decide +kernel
theorem dX5_within_18 : decode cX5_within 18 = .ok (.ireturn, 1) := by decide +kernel
set_option maxHeartbeats 4000000 in
set_option maxRecDepth 100000 in
theorem c_X5_within (l : Launch) (G : va_G) (cy : Nat → ClassId) (J1 : Int64) (J2 : Int64) (J3 : Int64)   : MR l yX5_within cX5_within 6 (some .boolean) 1 G cy [] [.long J1, .long J2, .long J3] (vp_Si (fun r => (r = 1 ∧ In J1 J2 J3) ∨ (r = 0 ∧ ¬ In J1 J2 J3))) := by
  refine enR RX5 (by decide) rfl (Nat.le_of_ble_eq_true rfl) (fun p e s m below meth c ls hx hb hml hown hts hr hlocks hP hN hl => ?_)
  have hK := hN.1
  have hl : lv_has ls 6 [(0, .long J1), (2, .long J2), (4, .long J3)] := hl
  refine lv_lload_n hx hb dX5_within_0 rfl (lv_at hl 0 rfl) ?_
  refine lv_lload_n hx hb dX5_within_1 rfl (lv_at hl 1 rfl) ?_
  refine W.lcmp hx hb dX5_within_2 ?_
  refine lv_if_lt (tgt := 17) hx hb dX5_within_3 (by decide) (fun c_1 => ?_) (fun c_1 => ?_)
  · refine lv_iconst (v := 0) hx hb dX5_within_17 (by decide) ?_
    exact endR hx hb hr hlocks rfl (Or.inr (⟨rfl, in_no1 c_1⟩)) dX5_within_18
  · refine lv_lload_n hx hb dX5_within_6 rfl (lv_at hl 0 rfl) ?_
    refine lv_lload hx hb dX5_within_7 (lv_at hl 2 rfl) ?_
    refine W.lcmp hx hb dX5_within_9 ?_
    refine lv_if_gt (tgt := 17) hx hb dX5_within_10 (by decide) (fun c_2 => ?_) (fun c_2 => ?_)
    · refine lv_iconst (v := 0) hx hb dX5_within_17 (by decide) ?_
      exact endR hx hb hr hlocks rfl (Or.inr (⟨rfl, in_no2 c_2⟩)) dX5_within_18
    · refine lv_iconst (v := 1) hx hb dX5_within_13 (by decide) ?_
      refine lv_goto (tgt := 18) hx hb dX5_within_14 (by decide) ?_
      exact endR hx hb hr hlocks rfl (Or.inl (⟨rfl, in_yes c_1 c_2⟩)) dX5_within_18
set_option maxHeartbeats 4000000 in
set_option maxRecDepth 100000 in
theorem c_X5_isShelf (l : Launch) (G : va_G) (cy : Nat → ClassId) (iA : Int32)   : MR l yX5_isShelf cX5_isShelf 1 (some .boolean) 2 G cy [] [.int iA] (vp_Si (fun r => (r = 1 ∧ In iA.toInt64 0 7) ∨ (r = 0 ∧ ¬ In iA.toInt64 0 7))) := by
  refine enR RX5 (by decide) rfl (Nat.le_of_ble_eq_true rfl) (fun p e s m below meth c ls hx hb hml hown hts hr hlocks hP hN hl => ?_)
  have hK := hN.1
  have hl : lv_has ls 1 [(0, .int iA)] := hl
  refine lv_iload_n hx hb dX5_isShelf_0 rfl (lv_at hl 0 rfl) ?_
  refine lv_i2l (v := iA.toInt64) hx hb dX5_isShelf_1 rfl ?_
  refine lv_lconst (v := 0) hx hb dX5_isShelf_2 (by decide) ?_
  refine lv_ldc2 hx hb hown (hts _ m_t209) dX5_isShelf_3 ?_
  refine kRi (rS (As := [.long iA.toInt64, .long 0, .long 7]) (rest := []) ⟨hx, hb, hml, hown, hts⟩ (c_X5_within l G cy iA.toInt64 0 7) L_X5_50 (preRS hN hP [] rfl) rfl ⟨Nat.le_of_ble_eq_true rfl, Nat.le_of_ble_eq_true rfl⟩ hl.1 (Nat.le_of_ble_eq_true rfl) dX5_isShelf_6 ⟨Nat.le_of_ble_eq_true rfl, Nat.le_of_ble_eq_true rfl⟩) (fun r_1 h_2 => ?_)
  rcases h_2 with ⟨rfl, h_3⟩ | ⟨rfl, h_3⟩
  · exact endR hx hb hr hlocks rfl (Or.inl (⟨rfl, h_3⟩)) dX5_isShelf_9
  · exact endR hx hb hr hlocks rfl (Or.inr (⟨rfl, by simp [h_3]⟩)) dX5_isShelf_9
set_option maxHeartbeats 4000000 in
set_option maxRecDepth 100000 in
theorem c_X5_setOfAll0 (l : Launch) (G : va_G) (cy : Nat → ClassId)    : MR l yX5_setOfAll cX5_setOfAll 1 (some .int) 1 G cy [] [.int 0] (vp_Si (fun r => (r = 0))) := by
  refine enR RX5 (by decide) rfl (Nat.le_of_ble_eq_true rfl) (fun p e s m below meth c ls hx hb hml hown hts hr hlocks hP hN hl => ?_)
  have hK := hN.1
  have hl : lv_has ls 1 [(0, .int 0)] := hl
  refine lv_iconst (v := 1) hx hb dX5_setOfAll_0 (by decide) ?_
  refine lv_iload_n hx hb dX5_setOfAll_1 rfl (lv_at hl 0 rfl) ?_
  refine lv_ishl hx hb dX5_setOfAll_2 ?_
  refine lv_seti (v := 1) (by decide) ?_
  refine lv_iconst (v := 1) hx hb dX5_setOfAll_3 (by decide) ?_
  refine lv_isub hx hb dX5_setOfAll_4 ?_
  refine lv_seti (v := 0) (by decide) ?_
  exact endR hx hb hr hlocks rfl rfl dX5_setOfAll_5
set_option maxHeartbeats 4000000 in
set_option maxRecDepth 100000 in
theorem c_X5_isSetOf0 (l : Launch) (G : va_G) (cy : Nat → ClassId) (iA : Int32)   : MR l yX5_isSetOf cX5_isSetOf 2 (some .boolean) 2 G cy [] [.int iA, .int 0] (vp_Si (fun r => (r = 1 ∧ iA = 0) ∨ (r = 0 ∧ ¬ iA = 0))) := by
  refine enR RX5 (by decide) rfl (Nat.le_of_ble_eq_true rfl) (fun p e s m below meth c ls hx hb hml hown hts hr hlocks hP hN hl => ?_)
  have hK := hN.1
  have hl : lv_has ls 2 [(0, .int iA), (1, .int 0)] := hl
  refine lv_iload_n hx hb dX5_isSetOf_0 rfl (lv_at hl 0 rfl) ?_
  refine lv_iload_n hx hb dX5_isSetOf_1 rfl (lv_at hl 1 rfl) ?_
  refine kRi (rS (As := [.int 0]) (rest := [.int iA]) ⟨hx, hb, hml, hown, hts⟩ (c_X5_setOfAll0 l G cy ) L_X5_186 (preRS hN hP [] rfl) rfl ⟨Nat.le_of_ble_eq_true rfl, Nat.le_of_ble_eq_true rfl⟩ hl.1 (Nat.le_of_ble_eq_true rfl) dX5_isSetOf_2 ⟨Nat.le_of_ble_eq_true rfl, Nat.le_of_ble_eq_true rfl⟩) (fun r_1 h_2 => ?_)
  subst h_2
  refine lv_iconst (v := (-1)) hx hb dX5_isSetOf_5 (by decide) ?_
  refine lv_ixor hx hb dX5_isSetOf_6 ?_
  refine lv_seti (v := (-1)) (by decide) ?_
  refine lv_iand hx hb dX5_isSetOf_7 ?_
  refine lv_if_ne (tgt := 15) hx hb dX5_isSetOf_8 (by decide) (fun c_3 => ?_) (fun c_3 => ?_)
  · refine lv_iconst (v := 0) hx hb dX5_isSetOf_15 (by decide) ?_
    exact endR hx hb hr hlocks rfl (Or.inr (⟨rfl, by rw [and_m1] at c_3; exact c_3⟩)) dX5_isSetOf_16
  · refine lv_iconst (v := 1) hx hb dX5_isSetOf_11 (by decide) ?_
    refine lv_goto (tgt := 16) hx hb dX5_isSetOf_12 (by decide) ?_
    exact endR hx hb hr hlocks rfl (Or.inl (⟨rfl, (and_m1 _).symm.trans c_3⟩)) dX5_isSetOf_16
set_option maxHeartbeats 4000000 in
set_option maxRecDepth 100000 in
theorem c_X5_canBeOne (l : Launch) (G : va_G) (cy : Nat → ClassId) (J1 : Int64) (J2 : Int64) (J3 : Int64) (J4 : Int64)   : MR l yX5_canBeOne cX5_canBeOne 8 (some .boolean) 2 G cy [] [.long J1, .long J2, .long J3, .long J4] (vp_Si (fun r => (r = 1 ∧ In J1 0 9 ∧ In J2 0 10 ∧ In J3 0 10 ∧ In J4 0 10) ∨ (r = 0 ∧ ¬ (In J1 0 9 ∧ In J2 0 10 ∧ In J3 0 10 ∧ In J4 0 10)))) := by
  refine enR RX5 (by decide) rfl (Nat.le_of_ble_eq_true rfl) (fun p e s m below meth c ls hx hb hml hown hts hr hlocks hP hN hl => ?_)
  have hK := hN.1
  have hl : lv_has ls 8 [(0, .long J1), (2, .long J2), (4, .long J3), (6, .long J4)] := hl
  refine lv_lload_n hx hb dX5_canBeOne_0 rfl (lv_at hl 0 rfl) ?_
  refine lv_lconst (v := 0) hx hb dX5_canBeOne_1 (by decide) ?_
  refine lv_ldc2 hx hb hown (hts _ m_t416) dX5_canBeOne_2 ?_
  refine kRi (rS (As := [.long J1, .long 0, .long 9]) (rest := []) ⟨hx, hb, hml, hown, hts⟩ (c_X5_within l G cy J1 0 9) L_X5_50 (preRS hN hP [] rfl) rfl ⟨Nat.le_of_ble_eq_true rfl, Nat.le_of_ble_eq_true rfl⟩ hl.1 (Nat.le_of_ble_eq_true rfl) dX5_canBeOne_5 ⟨Nat.le_of_ble_eq_true rfl, Nat.le_of_ble_eq_true rfl⟩) (fun r_1 h_2 => ?_)
  rcases h_2 with ⟨rfl, h_3⟩ | ⟨rfl, h_3⟩
  · refine lv_if_eq (tgt := 50) hx hb dX5_canBeOne_8 (by decide) (fun h9 => absurd h9 (by decide)) (fun _ => ?_)
    refine lv_lload_n hx hb dX5_canBeOne_11 rfl (lv_at hl 1 rfl) ?_
    refine lv_lconst (v := 0) hx hb dX5_canBeOne_12 (by decide) ?_
    refine lv_ldc2 hx hb hown (hts _ m_t417) dX5_canBeOne_13 ?_
    refine kRi (rS (As := [.long J2, .long 0, .long 10]) (rest := []) ⟨hx, hb, hml, hown, hts⟩ (c_X5_within l G cy J2 0 10) L_X5_50 (preRS hN hP [] rfl) rfl ⟨Nat.le_of_ble_eq_true rfl, Nat.le_of_ble_eq_true rfl⟩ hl.1 (Nat.le_of_ble_eq_true rfl) dX5_canBeOne_16 ⟨Nat.le_of_ble_eq_true rfl, Nat.le_of_ble_eq_true rfl⟩) (fun r_5 h_6 => ?_)
    rcases h_6 with ⟨rfl, h_7⟩ | ⟨rfl, h_7⟩
    · refine lv_if_eq (tgt := 50) hx hb dX5_canBeOne_19 (by decide) (fun h9 => absurd h9 (by decide)) (fun _ => ?_)
      refine lv_lload hx hb dX5_canBeOne_22 (lv_at hl 2 rfl) ?_
      refine lv_lconst (v := 0) hx hb dX5_canBeOne_24 (by decide) ?_
      refine lv_ldc2 hx hb hown (hts _ m_t417) dX5_canBeOne_25 ?_
      refine kRi (rS (As := [.long J3, .long 0, .long 10]) (rest := []) ⟨hx, hb, hml, hown, hts⟩ (c_X5_within l G cy J3 0 10) L_X5_50 (preRS hN hP [] rfl) rfl ⟨Nat.le_of_ble_eq_true rfl, Nat.le_of_ble_eq_true rfl⟩ hl.1 (Nat.le_of_ble_eq_true rfl) dX5_canBeOne_28 ⟨Nat.le_of_ble_eq_true rfl, Nat.le_of_ble_eq_true rfl⟩) (fun r_9 h_10 => ?_)
      rcases h_10 with ⟨rfl, h_11⟩ | ⟨rfl, h_11⟩
      · refine lv_if_eq (tgt := 50) hx hb dX5_canBeOne_31 (by decide) (fun h9 => absurd h9 (by decide)) (fun _ => ?_)
        refine lv_lload hx hb dX5_canBeOne_34 (lv_at hl 3 rfl) ?_
        refine lv_lconst (v := 0) hx hb dX5_canBeOne_36 (by decide) ?_
        refine lv_ldc2 hx hb hown (hts _ m_t417) dX5_canBeOne_37 ?_
        refine kRi (rS (As := [.long J4, .long 0, .long 10]) (rest := []) ⟨hx, hb, hml, hown, hts⟩ (c_X5_within l G cy J4 0 10) L_X5_50 (preRS hN hP [] rfl) rfl ⟨Nat.le_of_ble_eq_true rfl, Nat.le_of_ble_eq_true rfl⟩ hl.1 (Nat.le_of_ble_eq_true rfl) dX5_canBeOne_40 ⟨Nat.le_of_ble_eq_true rfl, Nat.le_of_ble_eq_true rfl⟩) (fun r_13 h_14 => ?_)
        rcases h_14 with ⟨rfl, h_15⟩ | ⟨rfl, h_15⟩
        · refine lv_if_eq (tgt := 50) hx hb dX5_canBeOne_43 (by decide) (fun h9 => absurd h9 (by decide)) (fun _ => ?_)
          refine lv_iconst (v := 1) hx hb dX5_canBeOne_46 (by decide) ?_
          refine lv_goto (tgt := 51) hx hb dX5_canBeOne_47 (by decide) ?_
          exact endR hx hb hr hlocks rfl (Or.inl (⟨rfl, ⟨h_3, h_7, h_11, h_15⟩⟩)) dX5_canBeOne_51
        · refine lv_if_eq (tgt := 50) hx hb dX5_canBeOne_43 (by decide) (fun _ => ?_) (fun h9 => absurd (by decide) h9)
          refine lv_iconst (v := 0) hx hb dX5_canBeOne_50 (by decide) ?_
          exact endR hx hb hr hlocks rfl (Or.inr (⟨rfl, by simp [h_3, h_7, h_11, h_15]⟩)) dX5_canBeOne_51
      · refine lv_if_eq (tgt := 50) hx hb dX5_canBeOne_31 (by decide) (fun _ => ?_) (fun h9 => absurd (by decide) h9)
        refine lv_iconst (v := 0) hx hb dX5_canBeOne_50 (by decide) ?_
        exact endR hx hb hr hlocks rfl (Or.inr (⟨rfl, by simp [h_3, h_7, h_11]⟩)) dX5_canBeOne_51
    · refine lv_if_eq (tgt := 50) hx hb dX5_canBeOne_19 (by decide) (fun _ => ?_) (fun h9 => absurd (by decide) h9)
      refine lv_iconst (v := 0) hx hb dX5_canBeOne_50 (by decide) ?_
      exact endR hx hb hr hlocks rfl (Or.inr (⟨rfl, by simp [h_3, h_7]⟩)) dX5_canBeOne_51
  · refine lv_if_eq (tgt := 50) hx hb dX5_canBeOne_8 (by decide) (fun _ => ?_) (fun h9 => absurd (by decide) h9)
    refine lv_iconst (v := 0) hx hb dX5_canBeOne_50 (by decide) ?_
    exact endR hx hb hr hlocks rfl (Or.inr (⟨rfl, by simp [h_3]⟩)) dX5_canBeOne_51
set_option maxHeartbeats 4000000 in
set_option maxRecDepth 100000 in
theorem c_X5_canBeTold (l : Launch) (G : va_G) (cy : Nat → ClassId) (iA : Int32) (iB : Int32)   : MR l yX5_canBeTold cX5_canBeTold 2 (some .boolean) 2 G cy [] [.int iA, .int iB] (vp_Si (fun r => (r = 1 ∧ In iA.toInt64 0 1000 ∧ In iB.toInt64 0 10) ∨ (r = 0 ∧ ¬ (In iA.toInt64 0 1000 ∧ In iB.toInt64 0 10)))) := by
  refine enR RX5 (by decide) rfl (Nat.le_of_ble_eq_true rfl) (fun p e s m below meth c ls hx hb hml hown hts hr hlocks hP hN hl => ?_)
  have hK := hN.1
  have hl : lv_has ls 2 [(0, .int iA), (1, .int iB)] := hl
  refine lv_iload_n hx hb dX5_canBeTold_0 rfl (lv_at hl 0 rfl) ?_
  refine lv_i2l (v := iA.toInt64) hx hb dX5_canBeTold_1 rfl ?_
  refine lv_lconst (v := 0) hx hb dX5_canBeTold_2 (by decide) ?_
  refine lv_ldc2 hx hb hown (hts _ m_t591) dX5_canBeTold_3 ?_
  refine kRi (rS (As := [.long iA.toInt64, .long 0, .long 1000]) (rest := []) ⟨hx, hb, hml, hown, hts⟩ (c_X5_within l G cy iA.toInt64 0 1000) L_X5_50 (preRS hN hP [] rfl) rfl ⟨Nat.le_of_ble_eq_true rfl, Nat.le_of_ble_eq_true rfl⟩ hl.1 (Nat.le_of_ble_eq_true rfl) dX5_canBeTold_6 ⟨Nat.le_of_ble_eq_true rfl, Nat.le_of_ble_eq_true rfl⟩) (fun r_1 h_2 => ?_)
  rcases h_2 with ⟨rfl, h_3⟩ | ⟨rfl, h_3⟩
  · refine lv_if_eq (tgt := 28) hx hb dX5_canBeTold_9 (by decide) (fun h9 => absurd h9 (by decide)) (fun _ => ?_)
    refine lv_iload_n hx hb dX5_canBeTold_12 rfl (lv_at hl 1 rfl) ?_
    refine lv_i2l (v := iB.toInt64) hx hb dX5_canBeTold_13 rfl ?_
    refine lv_lconst (v := 0) hx hb dX5_canBeTold_14 (by decide) ?_
    refine lv_ldc2 hx hb hown (hts _ m_t417) dX5_canBeTold_15 ?_
    refine kRi (rS (As := [.long iB.toInt64, .long 0, .long 10]) (rest := []) ⟨hx, hb, hml, hown, hts⟩ (c_X5_within l G cy iB.toInt64 0 10) L_X5_50 (preRS hN hP [] rfl) rfl ⟨Nat.le_of_ble_eq_true rfl, Nat.le_of_ble_eq_true rfl⟩ hl.1 (Nat.le_of_ble_eq_true rfl) dX5_canBeTold_18 ⟨Nat.le_of_ble_eq_true rfl, Nat.le_of_ble_eq_true rfl⟩) (fun r_5 h_6 => ?_)
    rcases h_6 with ⟨rfl, h_7⟩ | ⟨rfl, h_7⟩
    · refine lv_if_eq (tgt := 28) hx hb dX5_canBeTold_21 (by decide) (fun h9 => absurd h9 (by decide)) (fun _ => ?_)
      refine lv_iconst (v := 1) hx hb dX5_canBeTold_24 (by decide) ?_
      refine lv_goto (tgt := 29) hx hb dX5_canBeTold_25 (by decide) ?_
      exact endR hx hb hr hlocks rfl (Or.inl (⟨rfl, ⟨h_3, h_7⟩⟩)) dX5_canBeTold_29
    · refine lv_if_eq (tgt := 28) hx hb dX5_canBeTold_21 (by decide) (fun _ => ?_) (fun h9 => absurd (by decide) h9)
      refine lv_iconst (v := 0) hx hb dX5_canBeTold_28 (by decide) ?_
      exact endR hx hb hr hlocks rfl (Or.inr (⟨rfl, by simp [h_3, h_7]⟩)) dX5_canBeTold_29
  · refine lv_if_eq (tgt := 28) hx hb dX5_canBeTold_9 (by decide) (fun _ => ?_) (fun h9 => absurd (by decide) h9)
    refine lv_iconst (v := 0) hx hb dX5_canBeTold_28 (by decide) ?_
    exact endR hx hb hr hlocks rfl (Or.inr (⟨rfl, by simp [h_3]⟩)) dX5_canBeTold_29
set_option maxHeartbeats 4000000 in
set_option maxRecDepth 100000 in
theorem c_X4_afterTelling (l : Launch) (G : va_G) (cy : Nat → ClassId) (iA : Int32) (iB : Int32)   : MR l yX4_afterTelling cX4_afterTelling 2 (some .int) 1 G cy [] [.int iA, .int iB] (vp_Si (fun r => (r = (iA * iB / 10)))) := by
  refine enR RX4 (by decide) rfl (Nat.le_of_ble_eq_true rfl) (fun p e s m below meth c ls hx hb hml hown hts hr hlocks hP hN hl => ?_)
  have hK := hN.1
  have hl : lv_has ls 2 [(0, .int iA), (1, .int iB)] := hl
  refine lv_iload_n hx hb dX4_afterTelling_0 rfl (lv_at hl 0 rfl) ?_
  refine lv_iload_n hx hb dX4_afterTelling_1 rfl (lv_at hl 1 rfl) ?_
  refine lv_imul hx hb dX4_afterTelling_2 ?_
  refine lv_bipush (v := 10) hx hb dX4_afterTelling_3 (by decide) ?_
  refine lv_idiv hx hb dX4_afterTelling_5 (by decide) ?_
  exact endR hx hb hr hlocks rfl (by simp []) dX4_afterTelling_6
set_option maxHeartbeats 4000000 in
set_option maxRecDepth 100000 in
theorem c_J6_bitCount (l : Launch) (G : va_G) (cy : Nat → ClassId)    : MR l yJ6_bitCount_0f7a4 cJ6_bitCount_0f7a4 1 (some .int) 1 G cy [] [.int 0] (vp_Si (fun r => (r = 0))) := by
  refine enR RJ6 (by decide) rfl (Nat.le_of_ble_eq_true rfl) (fun p e s m below meth c ls hx hb hml hown hts hr hlocks hP hN hl => ?_)
  have hK := hN.1
  have hl : lv_has ls 1 [(0, .int 0)] := hl
  refine lv_iload_n hx hb dJ6_bitCount_0f7a4_0 rfl (lv_at hl 0 rfl) ?_
  refine lv_iload_n hx hb dJ6_bitCount_0f7a4_1 rfl (lv_at hl 0 rfl) ?_
  refine lv_iconst (v := 1) hx hb dJ6_bitCount_0f7a4_2 (by decide) ?_
  refine lv_iushr (v := 0) hx hb dJ6_bitCount_0f7a4_3 (by decide) ?_
  refine lv_ldcw hx hb hown (hts _ m_t664) dJ6_bitCount_0f7a4_4 ?_
  refine lv_iand hx hb dJ6_bitCount_0f7a4_7 ?_
  refine lv_seti (v := 0) (by decide) ?_
  refine lv_isub hx hb dJ6_bitCount_0f7a4_8 ?_
  refine lv_seti (v := 0) (by decide) ?_
  refine lv_istore_n (lv' := [(0, .int 0)]) hx hb dJ6_bitCount_0f7a4_9 rfl hl (by decide) rfl (fun ls hl => ?_)
  refine lv_iload_n hx hb dJ6_bitCount_0f7a4_10 rfl (lv_at hl 0 rfl) ?_
  refine lv_ldcw hx hb hown (hts _ m_t665) dJ6_bitCount_0f7a4_11 ?_
  refine lv_iand hx hb dJ6_bitCount_0f7a4_14 ?_
  refine lv_seti (v := 0) (by decide) ?_
  refine lv_iload_n hx hb dJ6_bitCount_0f7a4_15 rfl (lv_at hl 0 rfl) ?_
  refine lv_iconst (v := 2) hx hb dJ6_bitCount_0f7a4_16 (by decide) ?_
  refine lv_iushr (v := 0) hx hb dJ6_bitCount_0f7a4_17 (by decide) ?_
  refine lv_ldcw hx hb hown (hts _ m_t665) dJ6_bitCount_0f7a4_18 ?_
  refine lv_iand hx hb dJ6_bitCount_0f7a4_21 ?_
  refine lv_seti (v := 0) (by decide) ?_
  refine lv_iadd hx hb dJ6_bitCount_0f7a4_22 ?_
  refine lv_seti (v := 0) (by decide) ?_
  refine lv_istore_n (lv' := [(0, .int 0)]) hx hb dJ6_bitCount_0f7a4_23 rfl hl (by decide) rfl (fun ls hl => ?_)
  refine lv_iload_n hx hb dJ6_bitCount_0f7a4_24 rfl (lv_at hl 0 rfl) ?_
  refine lv_iload_n hx hb dJ6_bitCount_0f7a4_25 rfl (lv_at hl 0 rfl) ?_
  refine lv_iconst (v := 4) hx hb dJ6_bitCount_0f7a4_26 (by decide) ?_
  refine lv_iushr (v := 0) hx hb dJ6_bitCount_0f7a4_27 (by decide) ?_
  refine lv_iadd hx hb dJ6_bitCount_0f7a4_28 ?_
  refine lv_seti (v := 0) (by decide) ?_
  refine lv_ldcw hx hb hown (hts _ m_t666) dJ6_bitCount_0f7a4_29 ?_
  refine lv_iand hx hb dJ6_bitCount_0f7a4_32 ?_
  refine lv_seti (v := 0) (by decide) ?_
  refine lv_istore_n (lv' := [(0, .int 0)]) hx hb dJ6_bitCount_0f7a4_33 rfl hl (by decide) rfl (fun ls hl => ?_)
  refine lv_iload_n hx hb dJ6_bitCount_0f7a4_34 rfl (lv_at hl 0 rfl) ?_
  refine lv_iload_n hx hb dJ6_bitCount_0f7a4_35 rfl (lv_at hl 0 rfl) ?_
  refine lv_bipush (v := 8) hx hb dJ6_bitCount_0f7a4_36 (by decide) ?_
  refine lv_iushr (v := 0) hx hb dJ6_bitCount_0f7a4_38 (by decide) ?_
  refine lv_iadd hx hb dJ6_bitCount_0f7a4_39 ?_
  refine lv_seti (v := 0) (by decide) ?_
  refine lv_istore_n (lv' := [(0, .int 0)]) hx hb dJ6_bitCount_0f7a4_40 rfl hl (by decide) rfl (fun ls hl => ?_)
  refine lv_iload_n hx hb dJ6_bitCount_0f7a4_41 rfl (lv_at hl 0 rfl) ?_
  refine lv_iload_n hx hb dJ6_bitCount_0f7a4_42 rfl (lv_at hl 0 rfl) ?_
  refine lv_bipush (v := 16) hx hb dJ6_bitCount_0f7a4_43 (by decide) ?_
  refine lv_iushr (v := 0) hx hb dJ6_bitCount_0f7a4_45 (by decide) ?_
  refine lv_iadd hx hb dJ6_bitCount_0f7a4_46 ?_
  refine lv_seti (v := 0) (by decide) ?_
  refine lv_istore_n (lv' := [(0, .int 0)]) hx hb dJ6_bitCount_0f7a4_47 rfl hl (by decide) rfl (fun ls hl => ?_)
  refine lv_iload_n hx hb dJ6_bitCount_0f7a4_48 rfl (lv_at hl 0 rfl) ?_
  refine lv_bipush (v := 63) hx hb dJ6_bitCount_0f7a4_49 (by decide) ?_
  refine lv_iand hx hb dJ6_bitCount_0f7a4_51 ?_
  refine lv_seti (v := 0) (by decide) ?_
  exact endR hx hb hr hlocks rfl rfl dJ6_bitCount_0f7a4_52
set_option maxHeartbeats 4000000 in
set_option maxRecDepth 100000 in
theorem c_X4_isBook (l : Launch) (G : va_G) (cy : Nat → ClassId) (qt : Nat) (v1 : Value) (v2 : Value) (v3 : Value) (v4 : Value) (v5 : Value) (v6 : Value) (v7 : Value) (v8 : Value) (v9 : Value) (v10 : Value) (v11 : Value) (v12 : Value) (iA : Int32)   : MR l yX4_isBook cX4_isBook 2 (some .boolean) 1 G cy [(qt, .inr (3, [.int 0, v1, v2, v3, v4, v5, v6, v7, v8, v9, v10, v11, v12]))] [.ref qt, .int iA] (vp_Si (fun r => (r = 0))) := by
  refine enR RX4 (by decide) rfl (Nat.le_of_ble_eq_true rfl) (fun p e s m below meth c ls hx hb hml hown hts hr hlocks hP hN hl => ?_)
  have hK := hN.1
  have hl : lv_has ls 2 [(0, .ref qt), (1, .int iA)] := hl
  refine lv_iload_n hx hb dX4_isBook_0 rfl (lv_at hl 1 rfl) ?_
  refine lv_if_lt (tgt := 16) hx hb dX4_isBook_1 (by decide) (fun c_1 => ?_) (fun c_1 => ?_)
  · refine lv_iconst (v := 0) hx hb dX4_isBook_16 (by decide) ?_
    exact endR hx hb hr hlocks rfl rfl dX4_isBook_17
  · refine lv_iload_n hx hb dX4_isBook_4 rfl (lv_at hl 1 rfl) ?_
    refine lv_aload_n hx hb dX4_isBook_5 rfl (lv_at hl 0 rfl) ?_
    refine va_get (D := G) (ci := 3) (v := .int 0) (C := RX4) (T := TX4) (N := 13) hx hb hts iX_X4 hown hK hP 0 rfl rfl 0 (by decide) (hts _ m_t29) (fun _ h9 => h9) rfl dX4_isBook_6 ?_
    refine lv_icmp_ge (tgt := 16) hx hb dX4_isBook_9 (by decide) (fun c_2 => ?_) (fun c_2 => absurd (Int32.not_lt.mp c_1) c_2)
    refine lv_iconst (v := 0) hx hb dX4_isBook_16 (by decide) ?_
    exact endR hx hb hr hlocks rfl rfl dX4_isBook_17
set_option maxHeartbeats 4000000 in
set_option maxRecDepth 100000 in
theorem c_X4_isOne (l : Launch) (G : va_G) (cy : Nat → ClassId) (qt : Nat) (v0 : Value) (v1 : Value) (v2 : Value) (v3 : Value) (v4 : Value) (v5 : Value) (v6 : Value) (v7 : Value) (v8 : Value) (v9 : Value) (v10 : Value) (v11 : Value) (iA : Int32)   : MR l yX4_isOne cX4_isOne 2 (some .boolean) 1 G cy [(qt, .inr (3, [v0, .int 0, v1, v2, v3, v4, v5, v6, v7, v8, v9, v10, v11]))] [.ref qt, .int iA] (vp_Si (fun r => (r = 0))) := by
  refine enR RX4 (by decide) rfl (Nat.le_of_ble_eq_true rfl) (fun p e s m below meth c ls hx hb hml hown hts hr hlocks hP hN hl => ?_)
  have hK := hN.1
  have hl : lv_has ls 2 [(0, .ref qt), (1, .int iA)] := hl
  refine lv_iload_n hx hb dX4_isOne_0 rfl (lv_at hl 1 rfl) ?_
  refine lv_if_lt (tgt := 16) hx hb dX4_isOne_1 (by decide) (fun c_1 => ?_) (fun c_1 => ?_)
  · refine lv_iconst (v := 0) hx hb dX4_isOne_16 (by decide) ?_
    exact endR hx hb hr hlocks rfl rfl dX4_isOne_17
  · refine lv_iload_n hx hb dX4_isOne_4 rfl (lv_at hl 1 rfl) ?_
    refine lv_aload_n hx hb dX4_isOne_5 rfl (lv_at hl 0 rfl) ?_
    refine va_get (D := G) (ci := 3) (v := .int 0) (C := RX4) (T := TX4) (N := 13) hx hb hts iX_X4 hown hK hP 0 rfl rfl 1 (by decide) (hts _ m_t34) (fun _ h9 => h9) rfl dX4_isOne_6 ?_
    refine lv_icmp_ge (tgt := 16) hx hb dX4_isOne_9 (by decide) (fun c_2 => ?_) (fun c_2 => absurd (Int32.not_lt.mp c_1) c_2)
    refine lv_iconst (v := 0) hx hb dX4_isOne_16 (by decide) ?_
    exact endR hx hb hr hlocks rfl rfl dX4_isOne_17
set_option maxHeartbeats 4000000 in
set_option maxRecDepth 100000 in
theorem c_X4_setThere (l : Launch) (G : va_G) (cy : Nat → ClassId) (qt : Nat) (v0 : Value) (v1 : Value) (v2 : Value) (v3 : Value) (v4 : Value) (v5 : Value) (v6 : Value) (v7 : Value) (v8 : Value) (v9 : Value) (v10 : Value)   : MR l yX4_setThere cX4_setThere 1 (some .int) 2 G cy [(qt, .inr (3, [v0, .int 0, v1, .int 0, v2, v3, v4, v5, v6, v7, v8, v9, v10]))] [.ref qt] (vp_Si (fun r => (r = 0))) := by
  refine enR RX4 (by decide) rfl (Nat.le_of_ble_eq_true rfl) (fun p e s m below meth c ls hx hb hml hown hts hr hlocks hP hN hl => ?_)
  have hK := hN.1
  have hl : lv_has ls 1 [(0, .ref qt)] := hl
  refine lv_aload_n hx hb dX4_setThere_0 rfl (lv_at hl 0 rfl) ?_
  refine va_get (D := G) (ci := 3) (v := .int 0) (C := RX4) (T := TX4) (N := 13) hx hb hts iX_X4 hown hK hP 0 rfl rfl 1 (by decide) (hts _ m_t34) (fun _ h9 => h9) rfl dX4_setThere_1 ?_
  refine kRi (rSN (As := [.int 0]) (rest := []) ⟨hx, hb, hml, hown, hts⟩ hN (c_X5_setOfAll0 l G cy ) L_X4_58 (preRS hN hP [] rfl) rfl ⟨Nat.le_of_ble_eq_true rfl, Nat.le_of_ble_eq_true rfl⟩ hl.1 (Nat.le_of_ble_eq_true rfl) dX4_setThere_4 ⟨Nat.le_of_ble_eq_true rfl, Nat.le_of_ble_eq_true rfl⟩) (fun r_1 h_2 => ?_)
  subst h_2
  refine lv_aload_n hx hb dX4_setThere_7 rfl (lv_at hl 0 rfl) ?_
  refine va_get (D := G) (ci := 3) (v := .int 0) (C := RX4) (T := TX4) (N := 13) hx hb hts iX_X4 hown hK hP 0 rfl rfl 3 (by decide) (hts _ m_t43) (fun _ h9 => h9) rfl dX4_setThere_8 ?_
  refine lv_iconst (v := (-1)) hx hb dX4_setThere_11 (by decide) ?_
  refine lv_ixor hx hb dX4_setThere_12 ?_
  refine lv_seti (v := (-1)) (by decide) ?_
  refine lv_iand hx hb dX4_setThere_13 ?_
  refine lv_seti (v := 0) (by decide) ?_
  exact endR hx hb hr hlocks rfl rfl dX4_setThere_14
set_option maxHeartbeats 4000000 in
set_option maxRecDepth 100000 in
theorem c_X4_worthAmong (l : Launch) (G : va_G) (cy : Nat → ClassId) (qt : Nat) (v1 : Value) (v2 : Value) (v3 : Value) (v4 : Value) (v5 : Value) (v6 : Value) (v7 : Value) (v8 : Value) (v9 : Value) (v10 : Value) (v11 : Value) (v12 : Value) (iA : Int32)   : MR l yX4_worthAmong cX4_worthAmong 4 (some .int) 1 G cy [(qt, .inr (3, [.int 0, v1, v2, v3, v4, v5, v6, v7, v8, v9, v10, v11, v12]))] [.ref qt, .int iA] (vp_Si (fun r => (r = 0))) := by
  refine enR RX4 (by decide) rfl (Nat.le_of_ble_eq_true rfl) (fun p e s m below meth c ls hx hb hml hown hts hr hlocks hP hN hl => ?_)
  have hK := hN.1
  have hl : lv_has ls 4 [(0, .ref qt), (1, .int iA)] := hl
  refine lv_iconst (v := 0) hx hb dX4_worthAmong_0 (by decide) ?_
  refine lv_istore_n (lv' := [(2, .int 0), (0, .ref qt), (1, .int iA)]) hx hb dX4_worthAmong_1 rfl hl (by decide) rfl (fun ls hl => ?_)
  refine lv_iconst (v := 0) hx hb dX4_worthAmong_2 (by decide) ?_
  refine lv_istore_n (lv' := [(3, .int 0), (2, .int 0), (0, .ref qt), (1, .int iA)]) hx hb dX4_worthAmong_3 rfl hl (by decide) rfl (fun ls hl => ?_)
  refine lv_iload_n hx hb dX4_worthAmong_4 rfl (lv_at hl 0 rfl) ?_
  refine lv_aload_n hx hb dX4_worthAmong_5 rfl (lv_at hl 2 rfl) ?_
  refine va_get (D := G) (ci := 3) (v := .int 0) (C := RX4) (T := TX4) (N := 13) hx hb hts iX_X4 hown hK hP 0 rfl rfl 0 (by decide) (hts _ m_t29) (fun _ h9 => h9) rfl dX4_worthAmong_6 ?_
  refine lv_icmp_ge (tgt := 34) hx hb dX4_worthAmong_9 (by decide) (fun _ => ?_) (fun h9 => absurd (by decide) h9)
  refine lv_iload_n hx hb dX4_worthAmong_34 rfl (lv_at hl 1 rfl) ?_
  exact endR hx hb hr hlocks rfl rfl dX4_worthAmong_35
set_option maxHeartbeats 4000000 in
set_option maxRecDepth 100000 in
theorem c_X4_worthNow (l : Launch) (G : va_G) (cy : Nat → ClassId) (qt : Nat) (v1 : Value) (v2 : Value) (v3 : Value) (v4 : Value) (v5 : Value) (v6 : Value) (v7 : Value) (v8 : Value) (v9 : Value) (v10 : Value)   : MR l yX4_worthNow cX4_worthNow 1 (some .int) 3 G cy [(qt, .inr (3, [.int 0, .int 0, v1, .int 0, v2, v3, v4, v5, v6, v7, v8, v9, v10]))] [.ref qt] (vp_Si (fun r => (r = 0))) := by
  refine enR RX4 (by decide) rfl (Nat.le_of_ble_eq_true rfl) (fun p e s m below meth c ls hx hb hml hown hts hr hlocks hP hN hl => ?_)
  have hK := hN.1
  have hl : lv_has ls 1 [(0, .ref qt)] := hl
  refine lv_aload_n hx hb dX4_worthNow_0 rfl (lv_at hl 0 rfl) ?_
  refine lv_aload_n hx hb dX4_worthNow_1 rfl (lv_at hl 0 rfl) ?_
  refine kRi (rV (As := []) (rest := [.ref qt]) (b := qt) ⟨hx, hb, hml, hown, hts⟩ (c_X4_setThere l G cy qt (.int 0) v1 v2 v3 v4 v5 v6 v7 v8 v9 v10) L_X4_78 (preRV (q := (RX4, TX4, 13)) hN hP [0] rfl 0 3 rfl rfl) rfl ⟨Nat.le_of_ble_eq_true rfl, Nat.le_of_ble_eq_true rfl⟩ hl.1 (Nat.le_of_ble_eq_true rfl) dX4_worthNow_2 ⟨Nat.le_of_ble_eq_true rfl, Nat.le_of_ble_eq_true rfl⟩) (fun r_1 h_2 => ?_)
  subst h_2
  refine kRi (rV (As := [.int 0]) (rest := []) (b := qt) ⟨hx, hb, hml, hown, hts⟩ (c_X4_worthAmong l G cy qt (.int 0) v1 (.int 0) v2 v3 v4 v5 v6 v7 v8 v9 v10 0) L_X4_82 (preRV (q := (RX4, TX4, 13)) hN hP [0] rfl 0 3 rfl rfl) rfl ⟨Nat.le_of_ble_eq_true rfl, Nat.le_of_ble_eq_true rfl⟩ hl.1 (Nat.le_of_ble_eq_true rfl) dX4_worthNow_5 ⟨Nat.le_of_ble_eq_true rfl, Nat.le_of_ble_eq_true rfl⟩) (fun r_3 h_4 => ?_)
  subst h_4
  exact endR hx hb hr hlocks rfl rfl dX4_worthNow_8
set_option maxHeartbeats 4000000 in
set_option maxRecDepth 100000 in
theorem c_X4_booksKnown (l : Launch) (G : va_G) (cy : Nat → ClassId) (qt : Nat) (v1 : Value) (v2 : Value) (v3 : Value) (v4 : Value) (v5 : Value) (v6 : Value) (v7 : Value) (v8 : Value) (v9 : Value) (v10 : Value) (v11 : Value) (v12 : Value) (iA : Int32) (iB : Int32)   : MR l yX4_booksKnown cX4_booksKnown 5 (some .int) 1 G cy [(qt, .inr (3, [.int 0, v1, v2, v3, v4, v5, v6, v7, v8, v9, v10, v11, v12]))] [.ref qt, .int iA, .int iB] (vp_Si (fun r => (r = 0))) := by
  refine enR RX4 (by decide) rfl (Nat.le_of_ble_eq_true rfl) (fun p e s m below meth c ls hx hb hml hown hts hr hlocks hP hN hl => ?_)
  have hK := hN.1
  have hl : lv_has ls 5 [(0, .ref qt), (1, .int iA), (2, .int iB)] := hl
  refine lv_iconst (v := 0) hx hb dX4_booksKnown_0 (by decide) ?_
  refine lv_istore_n (lv' := [(3, .int 0), (0, .ref qt), (1, .int iA), (2, .int iB)]) hx hb dX4_booksKnown_1 rfl hl (by decide) rfl (fun ls hl => ?_)
  refine lv_iconst (v := 0) hx hb dX4_booksKnown_2 (by decide) ?_
  refine lv_istore (lv' := [(4, .int 0), (3, .int 0), (0, .ref qt), (1, .int iA), (2, .int iB)]) hx hb dX4_booksKnown_3 hl (by decide) rfl (fun ls hl => ?_)
  refine lv_iload hx hb dX4_booksKnown_5 (lv_at hl 0 rfl) ?_
  refine lv_aload_n hx hb dX4_booksKnown_7 rfl (lv_at hl 2 rfl) ?_
  refine va_get (D := G) (ci := 3) (v := .int 0) (C := RX4) (T := TX4) (N := 13) hx hb hts iX_X4 hown hK hP 0 rfl rfl 0 (by decide) (hts _ m_t29) (fun _ h9 => h9) rfl dX4_booksKnown_8 ?_
  refine lv_icmp_ge (tgt := 38) hx hb dX4_booksKnown_11 (by decide) (fun _ => ?_) (fun h9 => absurd (by decide) h9)
  refine lv_iload_n hx hb dX4_booksKnown_38 rfl (lv_at hl 1 rfl) ?_
  exact endR hx hb hr hlocks rfl rfl dX4_booksKnown_39
set_option maxHeartbeats 4000000 in
set_option maxRecDepth 100000 in
theorem c_X4_endYear (l : Launch) (G : va_G) (cy : Nat → ClassId) (qt : Nat) (v0 : Value) (v1 : Value) (v2 : Value) (v3 : Value) (v4 : Value) (v5 : Value) (v6 : Value) (v7 : Value) (v8 : Value) (v9 : Value) (v10 : Value)   : MR l yX4_endYear cX4_endYear 3 (some .int) 3 G cy [(qt, .inr (3, [v0, .int 0, v1, .int 0, v2, v3, v4, v5, v6, v7, v8, v9, v10]))] [.ref qt] (vp_Si (fun r => (r = 0))) := by
  refine enR RX4 (by decide) rfl (Nat.le_of_ble_eq_true rfl) (fun p e s m below meth c ls hx hb hml hown hts hr hlocks hP hN hl => ?_)
  have hK := hN.1
  have hl : lv_has ls 3 [(0, .ref qt)] := hl
  refine lv_aload_n hx hb dX4_endYear_0 rfl (lv_at hl 0 rfl) ?_
  refine kRi (rV (As := []) (rest := []) (b := qt) ⟨hx, hb, hml, hown, hts⟩ (c_X4_setThere l G cy qt v0 v1 v2 v3 v4 v5 v6 v7 v8 v9 v10) L_X4_78 (preRV (q := (RX4, TX4, 13)) hN hP [0] rfl 0 3 rfl rfl) rfl ⟨Nat.le_of_ble_eq_true rfl, Nat.le_of_ble_eq_true rfl⟩ hl.1 (Nat.le_of_ble_eq_true rfl) dX4_endYear_1 ⟨Nat.le_of_ble_eq_true rfl, Nat.le_of_ble_eq_true rfl⟩) (fun r_1 h_2 => ?_)
  subst h_2
  refine lv_istore_n (lv' := [(1, .int 0), (0, .ref qt)]) hx hb dX4_endYear_4 rfl hl (by decide) rfl (fun ls hl => ?_)
  refine lv_iconst (v := 0) hx hb dX4_endYear_5 (by decide) ?_
  refine lv_istore_n (lv' := [(2, .int 0), (1, .int 0), (0, .ref qt)]) hx hb dX4_endYear_6 rfl hl (by decide) rfl (fun ls hl => ?_)
  refine lv_iload_n hx hb dX4_endYear_7 rfl (lv_at hl 0 rfl) ?_
  refine lv_aload_n hx hb dX4_endYear_8 rfl (lv_at hl 2 rfl) ?_
  refine va_get (D := G) (ci := 3) (v := .int 0) (C := RX4) (T := TX4) (N := 13) hx hb hts iX_X4 hown hK hP 0 rfl rfl 1 (by decide) (hts _ m_t34) (fun _ h9 => h9) rfl dX4_endYear_9 ?_
  refine lv_icmp_ge (tgt := 67) hx hb dX4_endYear_12 (by decide) (fun _ => ?_) (fun h9 => absurd (by decide) h9)
  refine lv_iload_n hx hb dX4_endYear_67 rfl (lv_at hl 1 rfl) ?_
  refine lv_aload_n hx hb dX4_endYear_68 rfl (lv_at hl 2 rfl) ?_
  refine va_get (D := G) (ci := 3) (v := .int 0) (C := RX4) (T := TX4) (N := 13) hx hb hts iX_X4 hown hK hP 0 rfl rfl 3 (by decide) (hts _ m_t43) (fun _ h9 => h9) rfl dX4_endYear_69 ?_
  refine lv_iand hx hb dX4_endYear_72 ?_
  refine lv_seti (v := 0) (by decide) ?_
  refine kRi (rS (As := [.int 0]) (rest := []) ⟨hx, hb, hml, hown, hts⟩ (c_J6_bitCount l G cy ) L_X4_115 (preRS hN hP [] rfl) rfl ⟨Nat.le_of_ble_eq_true rfl, Nat.le_of_ble_eq_true rfl⟩ hl.1 (Nat.le_of_ble_eq_true rfl) dX4_endYear_73 ⟨Nat.le_of_ble_eq_true rfl, Nat.le_of_ble_eq_true rfl⟩) (fun r_4 h_5 => ?_)
  subst h_5
  exact endR hx hb hr hlocks rfl rfl dX4_endYear_76
set_option maxHeartbeats 4000000 in
set_option maxRecDepth 100000 in
theorem c_X4_addBook (l : Launch) (G : va_G) (cy : Nat → ClassId) (sz : Nat) (qt : Nat) (qtw : Nat) (qtn : Nat) (qtg : Nat) (qta : Nat) (qtr : Nat) (qtm : Nat) (qtt : Nat) (qts : Nat) (iA : Int32) (iB : Int32)   : MW l yX4_addBook cX4_addBook 4 (some .int) 1 0 0 G cy [(qt, .inr (3, [.int 0, .int 0, .int 0, .int 0, .int 1, .ref qtw, .ref qtn, .ref qtg, .ref qta, .ref qtr, .ref qtm, .ref qtt, .ref qts])), (qtw, .inl (cy 0, 8, .inl (fun _ => 0))), (qtn, .inl (cy 0, 8, .inl (fun _ => 0))), (qtg, .inl (cy 0, 8, .inl (fun _ => 0)))] sz [.ref qt, .int iA, .int iB] (Wi G (fun r u => u = [] ∧ ((r = 0)))) := by
  refine enW RX4 (by decide) rfl (Nat.le_of_ble_eq_true rfl) (fun p e s m below meth c ls A hx hb hml hown hts hr hlocks hP hN hl hin hD hA hS => ?_)
  have hin : meth.name = _ := hin
  have hK := hN.1
  have hl : lv_has ls 4 [(0, .ref qt), (1, .int iA), (2, .int iB)] := hl
  refine lv_aload_n hx hb dX4_addBook_0 rfl (lv_at hl 0 rfl) ?_
  refine va_get (D := G) (ci := 3) (v := .int 0) (C := RX4) (T := TX4) (N := 13) hx hb hts iX_X4 hown hK hP 0 rfl rfl 0 (by decide) (hts _ m_t29) (fun _ h9 => h9) rfl dX4_addBook_1 ?_
  refine lv_istore_n (lv' := [(3, .int 0), (0, .ref qt), (1, .int iA), (2, .int iB)]) hx hb dX4_addBook_4 rfl hl (by decide) rfl (fun ls hl => ?_)
  refine lv_aload_n hx hb dX4_addBook_5 rfl (lv_at hl 1 rfl) ?_
  refine va_get (D := G) (ci := 3) (v := .ref qtw) (C := RX4) (T := TX4) (N := 13) hx hb hts iX_X4 hown hK hP 0 rfl rfl 5 (by decide) (hts _ m_t48) (fun _ h9 => h9) rfl dX4_addBook_6 ?_
  refine lv_iload_n hx hb dX4_addBook_9 rfl (lv_at hl 0 rfl) ?_
  refine lv_iload_n hx hb dX4_addBook_10 rfl (lv_at hl 2 rfl) ?_
  refine va_iast hx hb hK hP hD hS 1 0 rfl rfl (in_c rfl) dX4_addBook_11 (fun H locs hP hD hS => ?_)
  have hP : va_P G CL [(qt, .inr (3, [.int 0, .int 0, .int 0, .int 0, .int 1, .ref qtw, .ref qtn, .ref qtg, .ref qta, .ref qtr, .ref qtm, .ref qtt, .ref qts])), (qtw, .inl (cy 0, 8, .inl (upd (fun _ => 0) 0 iA))), (qtn, .inl (cy 0, 8, .inl (fun _ => 0))), (qtg, .inl (cy 0, 8, .inl (fun _ => 0)))] H := hP
  have hD : va_D A [(qt, .inr (3, [.int 0, .int 0, .int 0, .int 0, .int 1, .ref qtw, .ref qtn, .ref qtg, .ref qta, .ref qtr, .ref qtm, .ref qtt, .ref qts])), (qtw, .inl (cy 0, 8, .inl (upd (fun _ => 0) 0 iA))), (qtn, .inl (cy 0, 8, .inl (fun _ => 0))), (qtg, .inl (cy 0, 8, .inl (fun _ => 0)))] := hD
  refine lv_aload_n hx hb dX4_addBook_12 rfl (lv_at hl 1 rfl) ?_
  refine va_get (D := G) (ci := 3) (v := .ref qtn) (C := RX4) (T := TX4) (N := 13) hx hb hts iX_X4 hown hK hP 0 rfl rfl 6 (by decide) (hts _ m_t50) (fun _ h9 => h9) rfl dX4_addBook_13 ?_
  refine lv_iload_n hx hb dX4_addBook_16 rfl (lv_at hl 0 rfl) ?_
  refine lv_iload_n hx hb dX4_addBook_17 rfl (lv_at hl 3 rfl) ?_
  refine va_iast hx hb hK hP hD hS 2 0 rfl rfl (in_c rfl) dX4_addBook_18 (fun H locs hP hD hS => ?_)
  have hP : va_P G CL [(qt, .inr (3, [.int 0, .int 0, .int 0, .int 0, .int 1, .ref qtw, .ref qtn, .ref qtg, .ref qta, .ref qtr, .ref qtm, .ref qtt, .ref qts])), (qtw, .inl (cy 0, 8, .inl (upd (fun _ => 0) 0 iA))), (qtn, .inl (cy 0, 8, .inl (upd (fun _ => 0) 0 iB))), (qtg, .inl (cy 0, 8, .inl (fun _ => 0)))] H := hP
  have hD : va_D A [(qt, .inr (3, [.int 0, .int 0, .int 0, .int 0, .int 1, .ref qtw, .ref qtn, .ref qtg, .ref qta, .ref qtr, .ref qtm, .ref qtt, .ref qts])), (qtw, .inl (cy 0, 8, .inl (upd (fun _ => 0) 0 iA))), (qtn, .inl (cy 0, 8, .inl (upd (fun _ => 0) 0 iB))), (qtg, .inl (cy 0, 8, .inl (fun _ => 0)))] := hD
  refine lv_aload_n hx hb dX4_addBook_19 rfl (lv_at hl 1 rfl) ?_
  refine va_get (D := G) (ci := 3) (v := .ref qtg) (C := RX4) (T := TX4) (N := 13) hx hb hts iX_X4 hown hK hP 0 rfl rfl 7 (by decide) (hts _ m_t53) (fun _ h9 => h9) rfl dX4_addBook_20 ?_
  refine lv_iload_n hx hb dX4_addBook_23 rfl (lv_at hl 0 rfl) ?_
  refine lv_sipush (v := 1000) hx hb dX4_addBook_24 (by decide) ?_
  refine va_iast hx hb hK hP hD hS 3 0 rfl rfl (in_c rfl) dX4_addBook_27 (fun H locs hP hD hS => ?_)
  have hP : va_P G CL [(qt, .inr (3, [.int 0, .int 0, .int 0, .int 0, .int 1, .ref qtw, .ref qtn, .ref qtg, .ref qta, .ref qtr, .ref qtm, .ref qtt, .ref qts])), (qtw, .inl (cy 0, 8, .inl (upd (fun _ => 0) 0 iA))), (qtn, .inl (cy 0, 8, .inl (upd (fun _ => 0) 0 iB))), (qtg, .inl (cy 0, 8, .inl (upd (fun _ => 0) 0 1000)))] H := hP
  have hD : va_D A [(qt, .inr (3, [.int 0, .int 0, .int 0, .int 0, .int 1, .ref qtw, .ref qtn, .ref qtg, .ref qta, .ref qtr, .ref qtm, .ref qtt, .ref qts])), (qtw, .inl (cy 0, 8, .inl (upd (fun _ => 0) 0 iA))), (qtn, .inl (cy 0, 8, .inl (upd (fun _ => 0) 0 iB))), (qtg, .inl (cy 0, 8, .inl (upd (fun _ => 0) 0 1000)))] := hD
  refine lv_aload_n hx hb dX4_addBook_28 rfl (lv_at hl 1 rfl) ?_
  refine lv_dup hx hb dX4_addBook_29 rfl ?_
  refine va_get (D := G) (ci := 3) (v := .int 0) (C := RX4) (T := TX4) (N := 13) hx hb hts iX_X4 hown hK hP 0 rfl rfl 0 (by decide) (hts _ m_t29) (fun _ h9 => h9) rfl dX4_addBook_30 ?_
  refine lv_iconst (v := 1) hx hb dX4_addBook_33 (by decide) ?_
  refine lv_iadd hx hb dX4_addBook_34 ?_
  refine lv_seti (v := 1) (by decide) ?_
  refine va_put (D := G) (ci := 3) (v := .int 1) (ty := .int) (C := RX4) (T := TX4) (N := 13) hx hb hts iX_X4 tyX4 tyX4_ok nmX4 hown hK hP hD hS 0 rfl rfl 0 (by decide) (hts _ m_t29) (fun _ h9 => h9) rfl (by decide +kernel) rfl rfl (Nat.le_of_ble_eq_true rfl) dX4_addBook_35 (fun H locs hP hD hS => ?_)
  have hP : va_P G CL [(qt, .inr (3, [.int 1, .int 0, .int 0, .int 0, .int 1, .ref qtw, .ref qtn, .ref qtg, .ref qta, .ref qtr, .ref qtm, .ref qtt, .ref qts])), (qtw, .inl (cy 0, 8, .inl (upd (fun _ => 0) 0 iA))), (qtn, .inl (cy 0, 8, .inl (upd (fun _ => 0) 0 iB))), (qtg, .inl (cy 0, 8, .inl (upd (fun _ => 0) 0 1000)))] H := hP
  have hD : va_D A [(qt, .inr (3, [.int 1, .int 0, .int 0, .int 0, .int 1, .ref qtw, .ref qtn, .ref qtg, .ref qta, .ref qtr, .ref qtm, .ref qtt, .ref qts])), (qtw, .inl (cy 0, 8, .inl (upd (fun _ => 0) 0 iA))), (qtn, .inl (cy 0, 8, .inl (upd (fun _ => 0) 0 iB))), (qtg, .inl (cy 0, 8, .inl (upd (fun _ => 0) 0 1000)))] := hD
  refine lv_iload_n hx hb dX4_addBook_38 rfl (lv_at hl 0 rfl) ?_
  exact endW (u := []) hx hb hr hlocks rfl va_P0 va_D0 hS ⟨rfl, rfl⟩ dX4_addBook_39
set_option maxHeartbeats 4000000 in
set_option maxRecDepth 100000 in
theorem c_X4_addOne (l : Launch) (G : va_G) (cy : Nat → ClassId) (sz : Nat) (qt : Nat) (qtw : Nat) (qtn : Nat) (qtg : Nat) (qta : Nat) (qtr : Nat) (qtm : Nat) (qtt : Nat) (qts : Nat) (iA : Int32) (iB : Int32) (iC : Int32) (iD : Int32)   : MW l yX4_addOne cX4_addOne 6 (some .int) 1 0 0 G cy [(qt, .inr (3, [.int 0, .int 0, .int 0, .int 0, .int 1, .ref qtw, .ref qtn, .ref qtg, .ref qta, .ref qtr, .ref qtm, .ref qtt, .ref qts])), (qta, .inl (cy 0, 8, .inl (fun _ => 0))), (qtr, .inl (cy 0, 8, .inl (fun _ => 0))), (qtm, .inl (cy 0, 8, .inl (fun _ => 0))), (qtt, .inl (cy 0, 8, .inl (fun _ => 0)))] sz [.ref qt, .int iA, .int iB, .int iC, .int iD] (Wi G (fun r u => u = [] ∧ ((r = 0)))) := by
  refine enW RX4 (by decide) rfl (Nat.le_of_ble_eq_true rfl) (fun p e s m below meth c ls A hx hb hml hown hts hr hlocks hP hN hl hin hD hA hS => ?_)
  have hin : meth.name = _ := hin
  have hK := hN.1
  have hl : lv_has ls 6 [(0, .ref qt), (1, .int iA), (2, .int iB), (3, .int iC), (4, .int iD)] := hl
  refine lv_aload_n hx hb dX4_addOne_0 rfl (lv_at hl 0 rfl) ?_
  refine va_get (D := G) (ci := 3) (v := .int 0) (C := RX4) (T := TX4) (N := 13) hx hb hts iX_X4 hown hK hP 0 rfl rfl 1 (by decide) (hts _ m_t34) (fun _ h9 => h9) rfl dX4_addOne_1 ?_
  refine lv_istore (lv' := [(5, .int 0), (0, .ref qt), (1, .int iA), (2, .int iB), (3, .int iC), (4, .int iD)]) hx hb dX4_addOne_4 hl (by decide) rfl (fun ls hl => ?_)
  refine lv_aload_n hx hb dX4_addOne_6 rfl (lv_at hl 1 rfl) ?_
  refine va_get (D := G) (ci := 3) (v := .ref qta) (C := RX4) (T := TX4) (N := 13) hx hb hts iX_X4 hown hK hP 0 rfl rfl 8 (by decide) (hts _ m_t56) (fun _ h9 => h9) rfl dX4_addOne_7 ?_
  refine lv_iload hx hb dX4_addOne_10 (lv_at hl 0 rfl) ?_
  refine lv_iload_n hx hb dX4_addOne_12 rfl (lv_at hl 2 rfl) ?_
  refine va_iast hx hb hK hP hD hS 1 0 rfl rfl (in_c rfl) dX4_addOne_13 (fun H locs hP hD hS => ?_)
  have hP : va_P G CL [(qt, .inr (3, [.int 0, .int 0, .int 0, .int 0, .int 1, .ref qtw, .ref qtn, .ref qtg, .ref qta, .ref qtr, .ref qtm, .ref qtt, .ref qts])), (qta, .inl (cy 0, 8, .inl (upd (fun _ => 0) 0 iA))), (qtr, .inl (cy 0, 8, .inl (fun _ => 0))), (qtm, .inl (cy 0, 8, .inl (fun _ => 0))), (qtt, .inl (cy 0, 8, .inl (fun _ => 0)))] H := hP
  have hD : va_D A [(qt, .inr (3, [.int 0, .int 0, .int 0, .int 0, .int 1, .ref qtw, .ref qtn, .ref qtg, .ref qta, .ref qtr, .ref qtm, .ref qtt, .ref qts])), (qta, .inl (cy 0, 8, .inl (upd (fun _ => 0) 0 iA))), (qtr, .inl (cy 0, 8, .inl (fun _ => 0))), (qtm, .inl (cy 0, 8, .inl (fun _ => 0))), (qtt, .inl (cy 0, 8, .inl (fun _ => 0)))] := hD
  refine lv_aload_n hx hb dX4_addOne_14 rfl (lv_at hl 1 rfl) ?_
  refine va_get (D := G) (ci := 3) (v := .ref qtr) (C := RX4) (T := TX4) (N := 13) hx hb hts iX_X4 hown hK hP 0 rfl rfl 9 (by decide) (hts _ m_t58) (fun _ h9 => h9) rfl dX4_addOne_15 ?_
  refine lv_iload hx hb dX4_addOne_18 (lv_at hl 0 rfl) ?_
  refine lv_iload_n hx hb dX4_addOne_20 rfl (lv_at hl 3 rfl) ?_
  refine va_iast hx hb hK hP hD hS 2 0 rfl rfl (in_c rfl) dX4_addOne_21 (fun H locs hP hD hS => ?_)
  have hP : va_P G CL [(qt, .inr (3, [.int 0, .int 0, .int 0, .int 0, .int 1, .ref qtw, .ref qtn, .ref qtg, .ref qta, .ref qtr, .ref qtm, .ref qtt, .ref qts])), (qta, .inl (cy 0, 8, .inl (upd (fun _ => 0) 0 iA))), (qtr, .inl (cy 0, 8, .inl (upd (fun _ => 0) 0 iB))), (qtm, .inl (cy 0, 8, .inl (fun _ => 0))), (qtt, .inl (cy 0, 8, .inl (fun _ => 0)))] H := hP
  have hD : va_D A [(qt, .inr (3, [.int 0, .int 0, .int 0, .int 0, .int 1, .ref qtw, .ref qtn, .ref qtg, .ref qta, .ref qtr, .ref qtm, .ref qtt, .ref qts])), (qta, .inl (cy 0, 8, .inl (upd (fun _ => 0) 0 iA))), (qtr, .inl (cy 0, 8, .inl (upd (fun _ => 0) 0 iB))), (qtm, .inl (cy 0, 8, .inl (fun _ => 0))), (qtt, .inl (cy 0, 8, .inl (fun _ => 0)))] := hD
  refine lv_aload_n hx hb dX4_addOne_22 rfl (lv_at hl 1 rfl) ?_
  refine va_get (D := G) (ci := 3) (v := .ref qtm) (C := RX4) (T := TX4) (N := 13) hx hb hts iX_X4 hown hK hP 0 rfl rfl 10 (by decide) (hts _ m_t60) (fun _ h9 => h9) rfl dX4_addOne_23 ?_
  refine lv_iload hx hb dX4_addOne_26 (lv_at hl 0 rfl) ?_
  refine lv_iload_n hx hb dX4_addOne_28 rfl (lv_at hl 4 rfl) ?_
  refine va_iast hx hb hK hP hD hS 3 0 rfl rfl (in_c rfl) dX4_addOne_29 (fun H locs hP hD hS => ?_)
  have hP : va_P G CL [(qt, .inr (3, [.int 0, .int 0, .int 0, .int 0, .int 1, .ref qtw, .ref qtn, .ref qtg, .ref qta, .ref qtr, .ref qtm, .ref qtt, .ref qts])), (qta, .inl (cy 0, 8, .inl (upd (fun _ => 0) 0 iA))), (qtr, .inl (cy 0, 8, .inl (upd (fun _ => 0) 0 iB))), (qtm, .inl (cy 0, 8, .inl (upd (fun _ => 0) 0 iC))), (qtt, .inl (cy 0, 8, .inl (fun _ => 0)))] H := hP
  have hD : va_D A [(qt, .inr (3, [.int 0, .int 0, .int 0, .int 0, .int 1, .ref qtw, .ref qtn, .ref qtg, .ref qta, .ref qtr, .ref qtm, .ref qtt, .ref qts])), (qta, .inl (cy 0, 8, .inl (upd (fun _ => 0) 0 iA))), (qtr, .inl (cy 0, 8, .inl (upd (fun _ => 0) 0 iB))), (qtm, .inl (cy 0, 8, .inl (upd (fun _ => 0) 0 iC))), (qtt, .inl (cy 0, 8, .inl (fun _ => 0)))] := hD
  refine lv_aload_n hx hb dX4_addOne_30 rfl (lv_at hl 1 rfl) ?_
  refine va_get (D := G) (ci := 3) (v := .ref qtt) (C := RX4) (T := TX4) (N := 13) hx hb hts iX_X4 hown hK hP 0 rfl rfl 11 (by decide) (hts _ m_t62) (fun _ h9 => h9) rfl dX4_addOne_31 ?_
  refine lv_iload hx hb dX4_addOne_34 (lv_at hl 0 rfl) ?_
  refine lv_iload hx hb dX4_addOne_36 (lv_at hl 5 rfl) ?_
  refine va_iast hx hb hK hP hD hS 4 0 rfl rfl (in_c rfl) dX4_addOne_38 (fun H locs hP hD hS => ?_)
  have hP : va_P G CL [(qt, .inr (3, [.int 0, .int 0, .int 0, .int 0, .int 1, .ref qtw, .ref qtn, .ref qtg, .ref qta, .ref qtr, .ref qtm, .ref qtt, .ref qts])), (qta, .inl (cy 0, 8, .inl (upd (fun _ => 0) 0 iA))), (qtr, .inl (cy 0, 8, .inl (upd (fun _ => 0) 0 iB))), (qtm, .inl (cy 0, 8, .inl (upd (fun _ => 0) 0 iC))), (qtt, .inl (cy 0, 8, .inl (upd (fun _ => 0) 0 iD)))] H := hP
  have hD : va_D A [(qt, .inr (3, [.int 0, .int 0, .int 0, .int 0, .int 1, .ref qtw, .ref qtn, .ref qtg, .ref qta, .ref qtr, .ref qtm, .ref qtt, .ref qts])), (qta, .inl (cy 0, 8, .inl (upd (fun _ => 0) 0 iA))), (qtr, .inl (cy 0, 8, .inl (upd (fun _ => 0) 0 iB))), (qtm, .inl (cy 0, 8, .inl (upd (fun _ => 0) 0 iC))), (qtt, .inl (cy 0, 8, .inl (upd (fun _ => 0) 0 iD)))] := hD
  refine lv_aload_n hx hb dX4_addOne_39 rfl (lv_at hl 1 rfl) ?_
  refine lv_dup hx hb dX4_addOne_40 rfl ?_
  refine va_get (D := G) (ci := 3) (v := .int 0) (C := RX4) (T := TX4) (N := 13) hx hb hts iX_X4 hown hK hP 0 rfl rfl 1 (by decide) (hts _ m_t34) (fun _ h9 => h9) rfl dX4_addOne_41 ?_
  refine lv_iconst (v := 1) hx hb dX4_addOne_44 (by decide) ?_
  refine lv_iadd hx hb dX4_addOne_45 ?_
  refine lv_seti (v := 1) (by decide) ?_
  refine va_put (D := G) (ci := 3) (v := .int 1) (ty := .int) (C := RX4) (T := TX4) (N := 13) hx hb hts iX_X4 tyX4 tyX4_ok nmX4 hown hK hP hD hS 0 rfl rfl 1 (by decide) (hts _ m_t34) (fun _ h9 => h9) rfl (by decide +kernel) rfl rfl (Nat.le_of_ble_eq_true rfl) dX4_addOne_46 (fun H locs hP hD hS => ?_)
  have hP : va_P G CL [(qt, .inr (3, [.int 0, .int 1, .int 0, .int 0, .int 1, .ref qtw, .ref qtn, .ref qtg, .ref qta, .ref qtr, .ref qtm, .ref qtt, .ref qts])), (qta, .inl (cy 0, 8, .inl (upd (fun _ => 0) 0 iA))), (qtr, .inl (cy 0, 8, .inl (upd (fun _ => 0) 0 iB))), (qtm, .inl (cy 0, 8, .inl (upd (fun _ => 0) 0 iC))), (qtt, .inl (cy 0, 8, .inl (upd (fun _ => 0) 0 iD)))] H := hP
  have hD : va_D A [(qt, .inr (3, [.int 0, .int 1, .int 0, .int 0, .int 1, .ref qtw, .ref qtn, .ref qtg, .ref qta, .ref qtr, .ref qtm, .ref qtt, .ref qts])), (qta, .inl (cy 0, 8, .inl (upd (fun _ => 0) 0 iA))), (qtr, .inl (cy 0, 8, .inl (upd (fun _ => 0) 0 iB))), (qtm, .inl (cy 0, 8, .inl (upd (fun _ => 0) 0 iC))), (qtt, .inl (cy 0, 8, .inl (upd (fun _ => 0) 0 iD)))] := hD
  refine lv_iload hx hb dX4_addOne_49 (lv_at hl 0 rfl) ?_
  exact endW (u := []) hx hb hr hlocks rfl va_P0 va_D0 hS ⟨rfl, rfl⟩ dX4_addOne_51
set_option maxHeartbeats 4000000 in
set_option maxRecDepth 100000 in
theorem c_X4_become (l : Launch) (G : va_G) (cy : Nat → ClassId) (sz : Nat) (qk : Nat) (qkw : Nat) (qkn : Nat) (qkg : Nat) (qka : Nat) (qkr : Nat) (qkm : Nat) (qkt : Nat) (qks : Nat) (qt : Nat) (qtw : Nat) (qtn : Nat) (qtg : Nat) (qta : Nat) (qtr : Nat) (qtm : Nat) (qtt : Nat) (qts : Nat)   : MW l yX4_become cX4_become 2 none 2 0 0 G cy [(qk, .inr (3, [.int 0, .int 0, .int 0, .int 0, .int 1, .ref qkw, .ref qkn, .ref qkg, .ref qka, .ref qkr, .ref qkm, .ref qkt, .ref qks])), (qkw, .inl (cy 0, 8, .inl (fun _ => 0))), (qkn, .inl (cy 0, 8, .inl (fun _ => 0))), (qkg, .inl (cy 0, 8, .inl (fun _ => 0))), (qka, .inl (cy 0, 8, .inl (fun _ => 0))), (qkr, .inl (cy 0, 8, .inl (fun _ => 0))), (qkm, .inl (cy 0, 8, .inl (fun _ => 0))), (qkt, .inl (cy 0, 8, .inl (fun _ => 0))), (qks, .inl (cy 0, 64, .inl (fun _ => 0))), (qt, .inr (3, [.int 0, .int 0, .int 0, .int 0, .int 1, .ref qtw, .ref qtn, .ref qtg, .ref qta, .ref qtr, .ref qtm, .ref qtt, .ref qts])), (qtw, .inl (cy 0, 8, .inl (fun _ => 0))), (qtn, .inl (cy 0, 8, .inl (fun _ => 0))), (qtg, .inl (cy 0, 8, .inl (fun _ => 0))), (qta, .inl (cy 0, 8, .inl (fun _ => 0))), (qtr, .inl (cy 0, 8, .inl (fun _ => 0))), (qtm, .inl (cy 0, 8, .inl (fun _ => 0))), (qtt, .inl (cy 0, 8, .inl (fun _ => 0))), (qts, .inl (cy 0, 64, .inl (fun _ => 0)))] sz [.ref qk, .ref qt] (Wv G (fun u => u = [])) := by
  refine enW RX4 (by decide) rfl (Nat.le_of_ble_eq_true rfl) (fun p e s m below meth c ls A hx hb hml hown hts hr hlocks hP hN hl hin hD hA hS => ?_)
  have hin : meth.name = _ := hin
  have hK := hN.1
  have hl : lv_has ls 2 [(0, .ref qk), (1, .ref qt)] := hl
  refine lv_aload_n hx hb dX4_become_0 rfl (lv_at hl 0 rfl) ?_
  refine lv_aload_n hx hb dX4_become_1 rfl (lv_at hl 1 rfl) ?_
  refine va_get (D := G) (ci := 3) (v := .int 0) (C := RX4) (T := TX4) (N := 13) hx hb hts iX_X4 hown hK hP 9 rfl rfl 0 (by decide) (hts _ m_t29) (fun _ h9 => h9) rfl dX4_become_2 ?_
  refine va_put (D := G) (ci := 3) (v := .int 0) (ty := .int) (C := RX4) (T := TX4) (N := 13) hx hb hts iX_X4 tyX4 tyX4_ok nmX4 hown hK hP hD hS 0 rfl rfl 0 (by decide) (hts _ m_t29) (fun _ h9 => h9) rfl (by decide +kernel) rfl rfl (Nat.le_of_ble_eq_true rfl) dX4_become_5 (fun H locs hP hD hS => ?_)
  have hP : va_P G CL [(qk, .inr (3, [.int 0, .int 0, .int 0, .int 0, .int 1, .ref qkw, .ref qkn, .ref qkg, .ref qka, .ref qkr, .ref qkm, .ref qkt, .ref qks])), (qkw, .inl (cy 0, 8, .inl (fun _ => 0))), (qkn, .inl (cy 0, 8, .inl (fun _ => 0))), (qkg, .inl (cy 0, 8, .inl (fun _ => 0))), (qka, .inl (cy 0, 8, .inl (fun _ => 0))), (qkr, .inl (cy 0, 8, .inl (fun _ => 0))), (qkm, .inl (cy 0, 8, .inl (fun _ => 0))), (qkt, .inl (cy 0, 8, .inl (fun _ => 0))), (qks, .inl (cy 0, 64, .inl (fun _ => 0))), (qt, .inr (3, [.int 0, .int 0, .int 0, .int 0, .int 1, .ref qtw, .ref qtn, .ref qtg, .ref qta, .ref qtr, .ref qtm, .ref qtt, .ref qts])), (qtw, .inl (cy 0, 8, .inl (fun _ => 0))), (qtn, .inl (cy 0, 8, .inl (fun _ => 0))), (qtg, .inl (cy 0, 8, .inl (fun _ => 0))), (qta, .inl (cy 0, 8, .inl (fun _ => 0))), (qtr, .inl (cy 0, 8, .inl (fun _ => 0))), (qtm, .inl (cy 0, 8, .inl (fun _ => 0))), (qtt, .inl (cy 0, 8, .inl (fun _ => 0))), (qts, .inl (cy 0, 64, .inl (fun _ => 0)))] H := hP
  have hD : va_D A [(qk, .inr (3, [.int 0, .int 0, .int 0, .int 0, .int 1, .ref qkw, .ref qkn, .ref qkg, .ref qka, .ref qkr, .ref qkm, .ref qkt, .ref qks])), (qkw, .inl (cy 0, 8, .inl (fun _ => 0))), (qkn, .inl (cy 0, 8, .inl (fun _ => 0))), (qkg, .inl (cy 0, 8, .inl (fun _ => 0))), (qka, .inl (cy 0, 8, .inl (fun _ => 0))), (qkr, .inl (cy 0, 8, .inl (fun _ => 0))), (qkm, .inl (cy 0, 8, .inl (fun _ => 0))), (qkt, .inl (cy 0, 8, .inl (fun _ => 0))), (qks, .inl (cy 0, 64, .inl (fun _ => 0))), (qt, .inr (3, [.int 0, .int 0, .int 0, .int 0, .int 1, .ref qtw, .ref qtn, .ref qtg, .ref qta, .ref qtr, .ref qtm, .ref qtt, .ref qts])), (qtw, .inl (cy 0, 8, .inl (fun _ => 0))), (qtn, .inl (cy 0, 8, .inl (fun _ => 0))), (qtg, .inl (cy 0, 8, .inl (fun _ => 0))), (qta, .inl (cy 0, 8, .inl (fun _ => 0))), (qtr, .inl (cy 0, 8, .inl (fun _ => 0))), (qtm, .inl (cy 0, 8, .inl (fun _ => 0))), (qtt, .inl (cy 0, 8, .inl (fun _ => 0))), (qts, .inl (cy 0, 64, .inl (fun _ => 0)))] := hD
  refine lv_aload_n hx hb dX4_become_8 rfl (lv_at hl 0 rfl) ?_
  refine lv_aload_n hx hb dX4_become_9 rfl (lv_at hl 1 rfl) ?_
  refine va_get (D := G) (ci := 3) (v := .int 0) (C := RX4) (T := TX4) (N := 13) hx hb hts iX_X4 hown hK hP 9 rfl rfl 1 (by decide) (hts _ m_t34) (fun _ h9 => h9) rfl dX4_become_10 ?_
  refine va_put (D := G) (ci := 3) (v := .int 0) (ty := .int) (C := RX4) (T := TX4) (N := 13) hx hb hts iX_X4 tyX4 tyX4_ok nmX4 hown hK hP hD hS 0 rfl rfl 1 (by decide) (hts _ m_t34) (fun _ h9 => h9) rfl (by decide +kernel) rfl rfl (Nat.le_of_ble_eq_true rfl) dX4_become_13 (fun H locs hP hD hS => ?_)
  have hP : va_P G CL [(qk, .inr (3, [.int 0, .int 0, .int 0, .int 0, .int 1, .ref qkw, .ref qkn, .ref qkg, .ref qka, .ref qkr, .ref qkm, .ref qkt, .ref qks])), (qkw, .inl (cy 0, 8, .inl (fun _ => 0))), (qkn, .inl (cy 0, 8, .inl (fun _ => 0))), (qkg, .inl (cy 0, 8, .inl (fun _ => 0))), (qka, .inl (cy 0, 8, .inl (fun _ => 0))), (qkr, .inl (cy 0, 8, .inl (fun _ => 0))), (qkm, .inl (cy 0, 8, .inl (fun _ => 0))), (qkt, .inl (cy 0, 8, .inl (fun _ => 0))), (qks, .inl (cy 0, 64, .inl (fun _ => 0))), (qt, .inr (3, [.int 0, .int 0, .int 0, .int 0, .int 1, .ref qtw, .ref qtn, .ref qtg, .ref qta, .ref qtr, .ref qtm, .ref qtt, .ref qts])), (qtw, .inl (cy 0, 8, .inl (fun _ => 0))), (qtn, .inl (cy 0, 8, .inl (fun _ => 0))), (qtg, .inl (cy 0, 8, .inl (fun _ => 0))), (qta, .inl (cy 0, 8, .inl (fun _ => 0))), (qtr, .inl (cy 0, 8, .inl (fun _ => 0))), (qtm, .inl (cy 0, 8, .inl (fun _ => 0))), (qtt, .inl (cy 0, 8, .inl (fun _ => 0))), (qts, .inl (cy 0, 64, .inl (fun _ => 0)))] H := hP
  have hD : va_D A [(qk, .inr (3, [.int 0, .int 0, .int 0, .int 0, .int 1, .ref qkw, .ref qkn, .ref qkg, .ref qka, .ref qkr, .ref qkm, .ref qkt, .ref qks])), (qkw, .inl (cy 0, 8, .inl (fun _ => 0))), (qkn, .inl (cy 0, 8, .inl (fun _ => 0))), (qkg, .inl (cy 0, 8, .inl (fun _ => 0))), (qka, .inl (cy 0, 8, .inl (fun _ => 0))), (qkr, .inl (cy 0, 8, .inl (fun _ => 0))), (qkm, .inl (cy 0, 8, .inl (fun _ => 0))), (qkt, .inl (cy 0, 8, .inl (fun _ => 0))), (qks, .inl (cy 0, 64, .inl (fun _ => 0))), (qt, .inr (3, [.int 0, .int 0, .int 0, .int 0, .int 1, .ref qtw, .ref qtn, .ref qtg, .ref qta, .ref qtr, .ref qtm, .ref qtt, .ref qts])), (qtw, .inl (cy 0, 8, .inl (fun _ => 0))), (qtn, .inl (cy 0, 8, .inl (fun _ => 0))), (qtg, .inl (cy 0, 8, .inl (fun _ => 0))), (qta, .inl (cy 0, 8, .inl (fun _ => 0))), (qtr, .inl (cy 0, 8, .inl (fun _ => 0))), (qtm, .inl (cy 0, 8, .inl (fun _ => 0))), (qtt, .inl (cy 0, 8, .inl (fun _ => 0))), (qts, .inl (cy 0, 64, .inl (fun _ => 0)))] := hD
  refine lv_aload_n hx hb dX4_become_16 rfl (lv_at hl 0 rfl) ?_
  refine lv_aload_n hx hb dX4_become_17 rfl (lv_at hl 1 rfl) ?_
  refine va_get (D := G) (ci := 3) (v := .int 0) (C := RX4) (T := TX4) (N := 13) hx hb hts iX_X4 hown hK hP 9 rfl rfl 2 (by decide) (hts _ m_t39) (fun _ h9 => h9) rfl dX4_become_18 ?_
  refine va_put (D := G) (ci := 3) (v := .int 0) (ty := .int) (C := RX4) (T := TX4) (N := 13) hx hb hts iX_X4 tyX4 tyX4_ok nmX4 hown hK hP hD hS 0 rfl rfl 2 (by decide) (hts _ m_t39) (fun _ h9 => h9) rfl (by decide +kernel) rfl rfl (Nat.le_of_ble_eq_true rfl) dX4_become_21 (fun H locs hP hD hS => ?_)
  have hP : va_P G CL [(qk, .inr (3, [.int 0, .int 0, .int 0, .int 0, .int 1, .ref qkw, .ref qkn, .ref qkg, .ref qka, .ref qkr, .ref qkm, .ref qkt, .ref qks])), (qkw, .inl (cy 0, 8, .inl (fun _ => 0))), (qkn, .inl (cy 0, 8, .inl (fun _ => 0))), (qkg, .inl (cy 0, 8, .inl (fun _ => 0))), (qka, .inl (cy 0, 8, .inl (fun _ => 0))), (qkr, .inl (cy 0, 8, .inl (fun _ => 0))), (qkm, .inl (cy 0, 8, .inl (fun _ => 0))), (qkt, .inl (cy 0, 8, .inl (fun _ => 0))), (qks, .inl (cy 0, 64, .inl (fun _ => 0))), (qt, .inr (3, [.int 0, .int 0, .int 0, .int 0, .int 1, .ref qtw, .ref qtn, .ref qtg, .ref qta, .ref qtr, .ref qtm, .ref qtt, .ref qts])), (qtw, .inl (cy 0, 8, .inl (fun _ => 0))), (qtn, .inl (cy 0, 8, .inl (fun _ => 0))), (qtg, .inl (cy 0, 8, .inl (fun _ => 0))), (qta, .inl (cy 0, 8, .inl (fun _ => 0))), (qtr, .inl (cy 0, 8, .inl (fun _ => 0))), (qtm, .inl (cy 0, 8, .inl (fun _ => 0))), (qtt, .inl (cy 0, 8, .inl (fun _ => 0))), (qts, .inl (cy 0, 64, .inl (fun _ => 0)))] H := hP
  have hD : va_D A [(qk, .inr (3, [.int 0, .int 0, .int 0, .int 0, .int 1, .ref qkw, .ref qkn, .ref qkg, .ref qka, .ref qkr, .ref qkm, .ref qkt, .ref qks])), (qkw, .inl (cy 0, 8, .inl (fun _ => 0))), (qkn, .inl (cy 0, 8, .inl (fun _ => 0))), (qkg, .inl (cy 0, 8, .inl (fun _ => 0))), (qka, .inl (cy 0, 8, .inl (fun _ => 0))), (qkr, .inl (cy 0, 8, .inl (fun _ => 0))), (qkm, .inl (cy 0, 8, .inl (fun _ => 0))), (qkt, .inl (cy 0, 8, .inl (fun _ => 0))), (qks, .inl (cy 0, 64, .inl (fun _ => 0))), (qt, .inr (3, [.int 0, .int 0, .int 0, .int 0, .int 1, .ref qtw, .ref qtn, .ref qtg, .ref qta, .ref qtr, .ref qtm, .ref qtt, .ref qts])), (qtw, .inl (cy 0, 8, .inl (fun _ => 0))), (qtn, .inl (cy 0, 8, .inl (fun _ => 0))), (qtg, .inl (cy 0, 8, .inl (fun _ => 0))), (qta, .inl (cy 0, 8, .inl (fun _ => 0))), (qtr, .inl (cy 0, 8, .inl (fun _ => 0))), (qtm, .inl (cy 0, 8, .inl (fun _ => 0))), (qtt, .inl (cy 0, 8, .inl (fun _ => 0))), (qts, .inl (cy 0, 64, .inl (fun _ => 0)))] := hD
  refine lv_aload_n hx hb dX4_become_24 rfl (lv_at hl 0 rfl) ?_
  refine lv_aload_n hx hb dX4_become_25 rfl (lv_at hl 1 rfl) ?_
  refine va_get (D := G) (ci := 3) (v := .int 0) (C := RX4) (T := TX4) (N := 13) hx hb hts iX_X4 hown hK hP 9 rfl rfl 3 (by decide) (hts _ m_t43) (fun _ h9 => h9) rfl dX4_become_26 ?_
  refine va_put (D := G) (ci := 3) (v := .int 0) (ty := .int) (C := RX4) (T := TX4) (N := 13) hx hb hts iX_X4 tyX4 tyX4_ok nmX4 hown hK hP hD hS 0 rfl rfl 3 (by decide) (hts _ m_t43) (fun _ h9 => h9) rfl (by decide +kernel) rfl rfl (Nat.le_of_ble_eq_true rfl) dX4_become_29 (fun H locs hP hD hS => ?_)
  have hP : va_P G CL [(qk, .inr (3, [.int 0, .int 0, .int 0, .int 0, .int 1, .ref qkw, .ref qkn, .ref qkg, .ref qka, .ref qkr, .ref qkm, .ref qkt, .ref qks])), (qkw, .inl (cy 0, 8, .inl (fun _ => 0))), (qkn, .inl (cy 0, 8, .inl (fun _ => 0))), (qkg, .inl (cy 0, 8, .inl (fun _ => 0))), (qka, .inl (cy 0, 8, .inl (fun _ => 0))), (qkr, .inl (cy 0, 8, .inl (fun _ => 0))), (qkm, .inl (cy 0, 8, .inl (fun _ => 0))), (qkt, .inl (cy 0, 8, .inl (fun _ => 0))), (qks, .inl (cy 0, 64, .inl (fun _ => 0))), (qt, .inr (3, [.int 0, .int 0, .int 0, .int 0, .int 1, .ref qtw, .ref qtn, .ref qtg, .ref qta, .ref qtr, .ref qtm, .ref qtt, .ref qts])), (qtw, .inl (cy 0, 8, .inl (fun _ => 0))), (qtn, .inl (cy 0, 8, .inl (fun _ => 0))), (qtg, .inl (cy 0, 8, .inl (fun _ => 0))), (qta, .inl (cy 0, 8, .inl (fun _ => 0))), (qtr, .inl (cy 0, 8, .inl (fun _ => 0))), (qtm, .inl (cy 0, 8, .inl (fun _ => 0))), (qtt, .inl (cy 0, 8, .inl (fun _ => 0))), (qts, .inl (cy 0, 64, .inl (fun _ => 0)))] H := hP
  have hD : va_D A [(qk, .inr (3, [.int 0, .int 0, .int 0, .int 0, .int 1, .ref qkw, .ref qkn, .ref qkg, .ref qka, .ref qkr, .ref qkm, .ref qkt, .ref qks])), (qkw, .inl (cy 0, 8, .inl (fun _ => 0))), (qkn, .inl (cy 0, 8, .inl (fun _ => 0))), (qkg, .inl (cy 0, 8, .inl (fun _ => 0))), (qka, .inl (cy 0, 8, .inl (fun _ => 0))), (qkr, .inl (cy 0, 8, .inl (fun _ => 0))), (qkm, .inl (cy 0, 8, .inl (fun _ => 0))), (qkt, .inl (cy 0, 8, .inl (fun _ => 0))), (qks, .inl (cy 0, 64, .inl (fun _ => 0))), (qt, .inr (3, [.int 0, .int 0, .int 0, .int 0, .int 1, .ref qtw, .ref qtn, .ref qtg, .ref qta, .ref qtr, .ref qtm, .ref qtt, .ref qts])), (qtw, .inl (cy 0, 8, .inl (fun _ => 0))), (qtn, .inl (cy 0, 8, .inl (fun _ => 0))), (qtg, .inl (cy 0, 8, .inl (fun _ => 0))), (qta, .inl (cy 0, 8, .inl (fun _ => 0))), (qtr, .inl (cy 0, 8, .inl (fun _ => 0))), (qtm, .inl (cy 0, 8, .inl (fun _ => 0))), (qtt, .inl (cy 0, 8, .inl (fun _ => 0))), (qts, .inl (cy 0, 64, .inl (fun _ => 0)))] := hD
  refine lv_aload_n hx hb dX4_become_32 rfl (lv_at hl 0 rfl) ?_
  refine lv_aload_n hx hb dX4_become_33 rfl (lv_at hl 1 rfl) ?_
  refine va_get (D := G) (ci := 3) (v := .int 1) (C := RX4) (T := TX4) (N := 13) hx hb hts iX_X4 hown hK hP 9 rfl rfl 4 (by decide) (hts _ m_t46) (fun _ h9 => h9) rfl dX4_become_34 ?_
  refine va_put (D := G) (ci := 3) (v := .int 1) (ty := .int) (C := RX4) (T := TX4) (N := 13) hx hb hts iX_X4 tyX4 tyX4_ok nmX4 hown hK hP hD hS 0 rfl rfl 4 (by decide) (hts _ m_t46) (fun _ h9 => h9) rfl (by decide +kernel) rfl rfl (Nat.le_of_ble_eq_true rfl) dX4_become_37 (fun H locs hP hD hS => ?_)
  have hP : va_P G CL [(qk, .inr (3, [.int 0, .int 0, .int 0, .int 0, .int 1, .ref qkw, .ref qkn, .ref qkg, .ref qka, .ref qkr, .ref qkm, .ref qkt, .ref qks])), (qkw, .inl (cy 0, 8, .inl (fun _ => 0))), (qkn, .inl (cy 0, 8, .inl (fun _ => 0))), (qkg, .inl (cy 0, 8, .inl (fun _ => 0))), (qka, .inl (cy 0, 8, .inl (fun _ => 0))), (qkr, .inl (cy 0, 8, .inl (fun _ => 0))), (qkm, .inl (cy 0, 8, .inl (fun _ => 0))), (qkt, .inl (cy 0, 8, .inl (fun _ => 0))), (qks, .inl (cy 0, 64, .inl (fun _ => 0))), (qt, .inr (3, [.int 0, .int 0, .int 0, .int 0, .int 1, .ref qtw, .ref qtn, .ref qtg, .ref qta, .ref qtr, .ref qtm, .ref qtt, .ref qts])), (qtw, .inl (cy 0, 8, .inl (fun _ => 0))), (qtn, .inl (cy 0, 8, .inl (fun _ => 0))), (qtg, .inl (cy 0, 8, .inl (fun _ => 0))), (qta, .inl (cy 0, 8, .inl (fun _ => 0))), (qtr, .inl (cy 0, 8, .inl (fun _ => 0))), (qtm, .inl (cy 0, 8, .inl (fun _ => 0))), (qtt, .inl (cy 0, 8, .inl (fun _ => 0))), (qts, .inl (cy 0, 64, .inl (fun _ => 0)))] H := hP
  have hD : va_D A [(qk, .inr (3, [.int 0, .int 0, .int 0, .int 0, .int 1, .ref qkw, .ref qkn, .ref qkg, .ref qka, .ref qkr, .ref qkm, .ref qkt, .ref qks])), (qkw, .inl (cy 0, 8, .inl (fun _ => 0))), (qkn, .inl (cy 0, 8, .inl (fun _ => 0))), (qkg, .inl (cy 0, 8, .inl (fun _ => 0))), (qka, .inl (cy 0, 8, .inl (fun _ => 0))), (qkr, .inl (cy 0, 8, .inl (fun _ => 0))), (qkm, .inl (cy 0, 8, .inl (fun _ => 0))), (qkt, .inl (cy 0, 8, .inl (fun _ => 0))), (qks, .inl (cy 0, 64, .inl (fun _ => 0))), (qt, .inr (3, [.int 0, .int 0, .int 0, .int 0, .int 1, .ref qtw, .ref qtn, .ref qtg, .ref qta, .ref qtr, .ref qtm, .ref qtt, .ref qts])), (qtw, .inl (cy 0, 8, .inl (fun _ => 0))), (qtn, .inl (cy 0, 8, .inl (fun _ => 0))), (qtg, .inl (cy 0, 8, .inl (fun _ => 0))), (qta, .inl (cy 0, 8, .inl (fun _ => 0))), (qtr, .inl (cy 0, 8, .inl (fun _ => 0))), (qtm, .inl (cy 0, 8, .inl (fun _ => 0))), (qtt, .inl (cy 0, 8, .inl (fun _ => 0))), (qts, .inl (cy 0, 64, .inl (fun _ => 0)))] := hD
  refine lv_aload_n hx hb dX4_become_40 rfl (lv_at hl 1 rfl) ?_
  refine va_get (D := G) (ci := 3) (v := .ref qtw) (C := RX4) (T := TX4) (N := 13) hx hb hts iX_X4 hown hK hP 9 rfl rfl 5 (by decide) (hts _ m_t48) (fun _ h9 => h9) rfl dX4_become_41 ?_
  refine lv_iconst (v := 0) hx hb dX4_become_44 (by decide) ?_
  refine lv_aload_n hx hb dX4_become_45 rfl (lv_at hl 0 rfl) ?_
  refine va_get (D := G) (ci := 3) (v := .ref qkw) (C := RX4) (T := TX4) (N := 13) hx hb hts iX_X4 hown hK hP 0 rfl rfl 5 (by decide) (hts _ m_t48) (fun _ h9 => h9) rfl dX4_become_46 ?_
  refine lv_iconst (v := 0) hx hb dX4_become_49 (by decide) ?_
  refine lv_bipush (v := 8) hx hb dX4_become_50 (by decide) ?_
  refine va_copyi (ty := .int) hx hb (hml.trans hl.1.symm) hown (hts _ m_t310) (hts _ m_nat) (hts _ m_t263) (hts _ m_t7) hK hP hD hS 10 1 0 0 rfl rfl rfl rfl rfl (by decide) (by decide) (by decide) (Nat.le_of_ble_eq_true rfl) (Nat.le_of_ble_eq_true rfl) (fun _ _ => rfl) (Nat.le_of_ble_eq_true rfl) (Nat.le_of_ble_eq_true rfl) dX4_become_52 (fun H locs hP hD hS => ?_)
  have hP : va_P G CL [(qk, .inr (3, [.int 0, .int 0, .int 0, .int 0, .int 1, .ref qkw, .ref qkn, .ref qkg, .ref qka, .ref qkr, .ref qkm, .ref qkt, .ref qks])), (qkw, .inl (cy 0, 8, .inl (va_cpy (fun _ => 0) (fun _ => 0) 0 0 8))), (qkn, .inl (cy 0, 8, .inl (fun _ => 0))), (qkg, .inl (cy 0, 8, .inl (fun _ => 0))), (qka, .inl (cy 0, 8, .inl (fun _ => 0))), (qkr, .inl (cy 0, 8, .inl (fun _ => 0))), (qkm, .inl (cy 0, 8, .inl (fun _ => 0))), (qkt, .inl (cy 0, 8, .inl (fun _ => 0))), (qks, .inl (cy 0, 64, .inl (fun _ => 0))), (qt, .inr (3, [.int 0, .int 0, .int 0, .int 0, .int 1, .ref qtw, .ref qtn, .ref qtg, .ref qta, .ref qtr, .ref qtm, .ref qtt, .ref qts])), (qtw, .inl (cy 0, 8, .inl (fun _ => 0))), (qtn, .inl (cy 0, 8, .inl (fun _ => 0))), (qtg, .inl (cy 0, 8, .inl (fun _ => 0))), (qta, .inl (cy 0, 8, .inl (fun _ => 0))), (qtr, .inl (cy 0, 8, .inl (fun _ => 0))), (qtm, .inl (cy 0, 8, .inl (fun _ => 0))), (qtt, .inl (cy 0, 8, .inl (fun _ => 0))), (qts, .inl (cy 0, 64, .inl (fun _ => 0)))] H := hP
  have hD : va_D A [(qk, .inr (3, [.int 0, .int 0, .int 0, .int 0, .int 1, .ref qkw, .ref qkn, .ref qkg, .ref qka, .ref qkr, .ref qkm, .ref qkt, .ref qks])), (qkw, .inl (cy 0, 8, .inl (va_cpy (fun _ => 0) (fun _ => 0) 0 0 8))), (qkn, .inl (cy 0, 8, .inl (fun _ => 0))), (qkg, .inl (cy 0, 8, .inl (fun _ => 0))), (qka, .inl (cy 0, 8, .inl (fun _ => 0))), (qkr, .inl (cy 0, 8, .inl (fun _ => 0))), (qkm, .inl (cy 0, 8, .inl (fun _ => 0))), (qkt, .inl (cy 0, 8, .inl (fun _ => 0))), (qks, .inl (cy 0, 64, .inl (fun _ => 0))), (qt, .inr (3, [.int 0, .int 0, .int 0, .int 0, .int 1, .ref qtw, .ref qtn, .ref qtg, .ref qta, .ref qtr, .ref qtm, .ref qtt, .ref qts])), (qtw, .inl (cy 0, 8, .inl (fun _ => 0))), (qtn, .inl (cy 0, 8, .inl (fun _ => 0))), (qtg, .inl (cy 0, 8, .inl (fun _ => 0))), (qta, .inl (cy 0, 8, .inl (fun _ => 0))), (qtr, .inl (cy 0, 8, .inl (fun _ => 0))), (qtm, .inl (cy 0, 8, .inl (fun _ => 0))), (qtt, .inl (cy 0, 8, .inl (fun _ => 0))), (qts, .inl (cy 0, 64, .inl (fun _ => 0)))] := hD
  refine lv_aload_n hx hb dX4_become_55 rfl (lv_at hl 1 rfl) ?_
  refine va_get (D := G) (ci := 3) (v := .ref qtn) (C := RX4) (T := TX4) (N := 13) hx hb hts iX_X4 hown hK hP 9 rfl rfl 6 (by decide) (hts _ m_t50) (fun _ h9 => h9) rfl dX4_become_56 ?_
  refine lv_iconst (v := 0) hx hb dX4_become_59 (by decide) ?_
  refine lv_aload_n hx hb dX4_become_60 rfl (lv_at hl 0 rfl) ?_
  refine va_get (D := G) (ci := 3) (v := .ref qkn) (C := RX4) (T := TX4) (N := 13) hx hb hts iX_X4 hown hK hP 0 rfl rfl 6 (by decide) (hts _ m_t50) (fun _ h9 => h9) rfl dX4_become_61 ?_
  refine lv_iconst (v := 0) hx hb dX4_become_64 (by decide) ?_
  refine lv_bipush (v := 8) hx hb dX4_become_65 (by decide) ?_
  refine va_copyi (ty := .int) hx hb (hml.trans hl.1.symm) hown (hts _ m_t310) (hts _ m_nat) (hts _ m_t263) (hts _ m_t7) hK hP hD hS 11 2 0 0 rfl rfl rfl rfl rfl (by decide) (by decide) (by decide) (Nat.le_of_ble_eq_true rfl) (Nat.le_of_ble_eq_true rfl) (fun _ _ => rfl) (Nat.le_of_ble_eq_true rfl) (Nat.le_of_ble_eq_true rfl) dX4_become_67 (fun H locs hP hD hS => ?_)
  have hP : va_P G CL [(qk, .inr (3, [.int 0, .int 0, .int 0, .int 0, .int 1, .ref qkw, .ref qkn, .ref qkg, .ref qka, .ref qkr, .ref qkm, .ref qkt, .ref qks])), (qkw, .inl (cy 0, 8, .inl (va_cpy (fun _ => 0) (fun _ => 0) 0 0 8))), (qkn, .inl (cy 0, 8, .inl (va_cpy (fun _ => 0) (fun _ => 0) 0 0 8))), (qkg, .inl (cy 0, 8, .inl (fun _ => 0))), (qka, .inl (cy 0, 8, .inl (fun _ => 0))), (qkr, .inl (cy 0, 8, .inl (fun _ => 0))), (qkm, .inl (cy 0, 8, .inl (fun _ => 0))), (qkt, .inl (cy 0, 8, .inl (fun _ => 0))), (qks, .inl (cy 0, 64, .inl (fun _ => 0))), (qt, .inr (3, [.int 0, .int 0, .int 0, .int 0, .int 1, .ref qtw, .ref qtn, .ref qtg, .ref qta, .ref qtr, .ref qtm, .ref qtt, .ref qts])), (qtw, .inl (cy 0, 8, .inl (fun _ => 0))), (qtn, .inl (cy 0, 8, .inl (fun _ => 0))), (qtg, .inl (cy 0, 8, .inl (fun _ => 0))), (qta, .inl (cy 0, 8, .inl (fun _ => 0))), (qtr, .inl (cy 0, 8, .inl (fun _ => 0))), (qtm, .inl (cy 0, 8, .inl (fun _ => 0))), (qtt, .inl (cy 0, 8, .inl (fun _ => 0))), (qts, .inl (cy 0, 64, .inl (fun _ => 0)))] H := hP
  have hD : va_D A [(qk, .inr (3, [.int 0, .int 0, .int 0, .int 0, .int 1, .ref qkw, .ref qkn, .ref qkg, .ref qka, .ref qkr, .ref qkm, .ref qkt, .ref qks])), (qkw, .inl (cy 0, 8, .inl (va_cpy (fun _ => 0) (fun _ => 0) 0 0 8))), (qkn, .inl (cy 0, 8, .inl (va_cpy (fun _ => 0) (fun _ => 0) 0 0 8))), (qkg, .inl (cy 0, 8, .inl (fun _ => 0))), (qka, .inl (cy 0, 8, .inl (fun _ => 0))), (qkr, .inl (cy 0, 8, .inl (fun _ => 0))), (qkm, .inl (cy 0, 8, .inl (fun _ => 0))), (qkt, .inl (cy 0, 8, .inl (fun _ => 0))), (qks, .inl (cy 0, 64, .inl (fun _ => 0))), (qt, .inr (3, [.int 0, .int 0, .int 0, .int 0, .int 1, .ref qtw, .ref qtn, .ref qtg, .ref qta, .ref qtr, .ref qtm, .ref qtt, .ref qts])), (qtw, .inl (cy 0, 8, .inl (fun _ => 0))), (qtn, .inl (cy 0, 8, .inl (fun _ => 0))), (qtg, .inl (cy 0, 8, .inl (fun _ => 0))), (qta, .inl (cy 0, 8, .inl (fun _ => 0))), (qtr, .inl (cy 0, 8, .inl (fun _ => 0))), (qtm, .inl (cy 0, 8, .inl (fun _ => 0))), (qtt, .inl (cy 0, 8, .inl (fun _ => 0))), (qts, .inl (cy 0, 64, .inl (fun _ => 0)))] := hD
  refine lv_aload_n hx hb dX4_become_70 rfl (lv_at hl 1 rfl) ?_
  refine va_get (D := G) (ci := 3) (v := .ref qtg) (C := RX4) (T := TX4) (N := 13) hx hb hts iX_X4 hown hK hP 9 rfl rfl 7 (by decide) (hts _ m_t53) (fun _ h9 => h9) rfl dX4_become_71 ?_
  refine lv_iconst (v := 0) hx hb dX4_become_74 (by decide) ?_
  refine lv_aload_n hx hb dX4_become_75 rfl (lv_at hl 0 rfl) ?_
  refine va_get (D := G) (ci := 3) (v := .ref qkg) (C := RX4) (T := TX4) (N := 13) hx hb hts iX_X4 hown hK hP 0 rfl rfl 7 (by decide) (hts _ m_t53) (fun _ h9 => h9) rfl dX4_become_76 ?_
  refine lv_iconst (v := 0) hx hb dX4_become_79 (by decide) ?_
  refine lv_bipush (v := 8) hx hb dX4_become_80 (by decide) ?_
  refine va_copyi (ty := .int) hx hb (hml.trans hl.1.symm) hown (hts _ m_t310) (hts _ m_nat) (hts _ m_t263) (hts _ m_t7) hK hP hD hS 12 3 0 0 rfl rfl rfl rfl rfl (by decide) (by decide) (by decide) (Nat.le_of_ble_eq_true rfl) (Nat.le_of_ble_eq_true rfl) (fun _ _ => rfl) (Nat.le_of_ble_eq_true rfl) (Nat.le_of_ble_eq_true rfl) dX4_become_82 (fun H locs hP hD hS => ?_)
  have hP : va_P G CL [(qk, .inr (3, [.int 0, .int 0, .int 0, .int 0, .int 1, .ref qkw, .ref qkn, .ref qkg, .ref qka, .ref qkr, .ref qkm, .ref qkt, .ref qks])), (qkw, .inl (cy 0, 8, .inl (va_cpy (fun _ => 0) (fun _ => 0) 0 0 8))), (qkn, .inl (cy 0, 8, .inl (va_cpy (fun _ => 0) (fun _ => 0) 0 0 8))), (qkg, .inl (cy 0, 8, .inl (va_cpy (fun _ => 0) (fun _ => 0) 0 0 8))), (qka, .inl (cy 0, 8, .inl (fun _ => 0))), (qkr, .inl (cy 0, 8, .inl (fun _ => 0))), (qkm, .inl (cy 0, 8, .inl (fun _ => 0))), (qkt, .inl (cy 0, 8, .inl (fun _ => 0))), (qks, .inl (cy 0, 64, .inl (fun _ => 0))), (qt, .inr (3, [.int 0, .int 0, .int 0, .int 0, .int 1, .ref qtw, .ref qtn, .ref qtg, .ref qta, .ref qtr, .ref qtm, .ref qtt, .ref qts])), (qtw, .inl (cy 0, 8, .inl (fun _ => 0))), (qtn, .inl (cy 0, 8, .inl (fun _ => 0))), (qtg, .inl (cy 0, 8, .inl (fun _ => 0))), (qta, .inl (cy 0, 8, .inl (fun _ => 0))), (qtr, .inl (cy 0, 8, .inl (fun _ => 0))), (qtm, .inl (cy 0, 8, .inl (fun _ => 0))), (qtt, .inl (cy 0, 8, .inl (fun _ => 0))), (qts, .inl (cy 0, 64, .inl (fun _ => 0)))] H := hP
  have hD : va_D A [(qk, .inr (3, [.int 0, .int 0, .int 0, .int 0, .int 1, .ref qkw, .ref qkn, .ref qkg, .ref qka, .ref qkr, .ref qkm, .ref qkt, .ref qks])), (qkw, .inl (cy 0, 8, .inl (va_cpy (fun _ => 0) (fun _ => 0) 0 0 8))), (qkn, .inl (cy 0, 8, .inl (va_cpy (fun _ => 0) (fun _ => 0) 0 0 8))), (qkg, .inl (cy 0, 8, .inl (va_cpy (fun _ => 0) (fun _ => 0) 0 0 8))), (qka, .inl (cy 0, 8, .inl (fun _ => 0))), (qkr, .inl (cy 0, 8, .inl (fun _ => 0))), (qkm, .inl (cy 0, 8, .inl (fun _ => 0))), (qkt, .inl (cy 0, 8, .inl (fun _ => 0))), (qks, .inl (cy 0, 64, .inl (fun _ => 0))), (qt, .inr (3, [.int 0, .int 0, .int 0, .int 0, .int 1, .ref qtw, .ref qtn, .ref qtg, .ref qta, .ref qtr, .ref qtm, .ref qtt, .ref qts])), (qtw, .inl (cy 0, 8, .inl (fun _ => 0))), (qtn, .inl (cy 0, 8, .inl (fun _ => 0))), (qtg, .inl (cy 0, 8, .inl (fun _ => 0))), (qta, .inl (cy 0, 8, .inl (fun _ => 0))), (qtr, .inl (cy 0, 8, .inl (fun _ => 0))), (qtm, .inl (cy 0, 8, .inl (fun _ => 0))), (qtt, .inl (cy 0, 8, .inl (fun _ => 0))), (qts, .inl (cy 0, 64, .inl (fun _ => 0)))] := hD
  refine lv_aload_n hx hb dX4_become_85 rfl (lv_at hl 1 rfl) ?_
  refine va_get (D := G) (ci := 3) (v := .ref qta) (C := RX4) (T := TX4) (N := 13) hx hb hts iX_X4 hown hK hP 9 rfl rfl 8 (by decide) (hts _ m_t56) (fun _ h9 => h9) rfl dX4_become_86 ?_
  refine lv_iconst (v := 0) hx hb dX4_become_89 (by decide) ?_
  refine lv_aload_n hx hb dX4_become_90 rfl (lv_at hl 0 rfl) ?_
  refine va_get (D := G) (ci := 3) (v := .ref qka) (C := RX4) (T := TX4) (N := 13) hx hb hts iX_X4 hown hK hP 0 rfl rfl 8 (by decide) (hts _ m_t56) (fun _ h9 => h9) rfl dX4_become_91 ?_
  refine lv_iconst (v := 0) hx hb dX4_become_94 (by decide) ?_
  refine lv_bipush (v := 8) hx hb dX4_become_95 (by decide) ?_
  refine va_copyi (ty := .int) hx hb (hml.trans hl.1.symm) hown (hts _ m_t310) (hts _ m_nat) (hts _ m_t263) (hts _ m_t7) hK hP hD hS 13 4 0 0 rfl rfl rfl rfl rfl (by decide) (by decide) (by decide) (Nat.le_of_ble_eq_true rfl) (Nat.le_of_ble_eq_true rfl) (fun _ _ => rfl) (Nat.le_of_ble_eq_true rfl) (Nat.le_of_ble_eq_true rfl) dX4_become_97 (fun H locs hP hD hS => ?_)
  have hP : va_P G CL [(qk, .inr (3, [.int 0, .int 0, .int 0, .int 0, .int 1, .ref qkw, .ref qkn, .ref qkg, .ref qka, .ref qkr, .ref qkm, .ref qkt, .ref qks])), (qkw, .inl (cy 0, 8, .inl (va_cpy (fun _ => 0) (fun _ => 0) 0 0 8))), (qkn, .inl (cy 0, 8, .inl (va_cpy (fun _ => 0) (fun _ => 0) 0 0 8))), (qkg, .inl (cy 0, 8, .inl (va_cpy (fun _ => 0) (fun _ => 0) 0 0 8))), (qka, .inl (cy 0, 8, .inl (va_cpy (fun _ => 0) (fun _ => 0) 0 0 8))), (qkr, .inl (cy 0, 8, .inl (fun _ => 0))), (qkm, .inl (cy 0, 8, .inl (fun _ => 0))), (qkt, .inl (cy 0, 8, .inl (fun _ => 0))), (qks, .inl (cy 0, 64, .inl (fun _ => 0))), (qt, .inr (3, [.int 0, .int 0, .int 0, .int 0, .int 1, .ref qtw, .ref qtn, .ref qtg, .ref qta, .ref qtr, .ref qtm, .ref qtt, .ref qts])), (qtw, .inl (cy 0, 8, .inl (fun _ => 0))), (qtn, .inl (cy 0, 8, .inl (fun _ => 0))), (qtg, .inl (cy 0, 8, .inl (fun _ => 0))), (qta, .inl (cy 0, 8, .inl (fun _ => 0))), (qtr, .inl (cy 0, 8, .inl (fun _ => 0))), (qtm, .inl (cy 0, 8, .inl (fun _ => 0))), (qtt, .inl (cy 0, 8, .inl (fun _ => 0))), (qts, .inl (cy 0, 64, .inl (fun _ => 0)))] H := hP
  have hD : va_D A [(qk, .inr (3, [.int 0, .int 0, .int 0, .int 0, .int 1, .ref qkw, .ref qkn, .ref qkg, .ref qka, .ref qkr, .ref qkm, .ref qkt, .ref qks])), (qkw, .inl (cy 0, 8, .inl (va_cpy (fun _ => 0) (fun _ => 0) 0 0 8))), (qkn, .inl (cy 0, 8, .inl (va_cpy (fun _ => 0) (fun _ => 0) 0 0 8))), (qkg, .inl (cy 0, 8, .inl (va_cpy (fun _ => 0) (fun _ => 0) 0 0 8))), (qka, .inl (cy 0, 8, .inl (va_cpy (fun _ => 0) (fun _ => 0) 0 0 8))), (qkr, .inl (cy 0, 8, .inl (fun _ => 0))), (qkm, .inl (cy 0, 8, .inl (fun _ => 0))), (qkt, .inl (cy 0, 8, .inl (fun _ => 0))), (qks, .inl (cy 0, 64, .inl (fun _ => 0))), (qt, .inr (3, [.int 0, .int 0, .int 0, .int 0, .int 1, .ref qtw, .ref qtn, .ref qtg, .ref qta, .ref qtr, .ref qtm, .ref qtt, .ref qts])), (qtw, .inl (cy 0, 8, .inl (fun _ => 0))), (qtn, .inl (cy 0, 8, .inl (fun _ => 0))), (qtg, .inl (cy 0, 8, .inl (fun _ => 0))), (qta, .inl (cy 0, 8, .inl (fun _ => 0))), (qtr, .inl (cy 0, 8, .inl (fun _ => 0))), (qtm, .inl (cy 0, 8, .inl (fun _ => 0))), (qtt, .inl (cy 0, 8, .inl (fun _ => 0))), (qts, .inl (cy 0, 64, .inl (fun _ => 0)))] := hD
  refine lv_aload_n hx hb dX4_become_100 rfl (lv_at hl 1 rfl) ?_
  refine va_get (D := G) (ci := 3) (v := .ref qtr) (C := RX4) (T := TX4) (N := 13) hx hb hts iX_X4 hown hK hP 9 rfl rfl 9 (by decide) (hts _ m_t58) (fun _ h9 => h9) rfl dX4_become_101 ?_
  refine lv_iconst (v := 0) hx hb dX4_become_104 (by decide) ?_
  refine lv_aload_n hx hb dX4_become_105 rfl (lv_at hl 0 rfl) ?_
  refine va_get (D := G) (ci := 3) (v := .ref qkr) (C := RX4) (T := TX4) (N := 13) hx hb hts iX_X4 hown hK hP 0 rfl rfl 9 (by decide) (hts _ m_t58) (fun _ h9 => h9) rfl dX4_become_106 ?_
  refine lv_iconst (v := 0) hx hb dX4_become_109 (by decide) ?_
  refine lv_bipush (v := 8) hx hb dX4_become_110 (by decide) ?_
  refine va_copyi (ty := .int) hx hb (hml.trans hl.1.symm) hown (hts _ m_t310) (hts _ m_nat) (hts _ m_t263) (hts _ m_t7) hK hP hD hS 14 5 0 0 rfl rfl rfl rfl rfl (by decide) (by decide) (by decide) (Nat.le_of_ble_eq_true rfl) (Nat.le_of_ble_eq_true rfl) (fun _ _ => rfl) (Nat.le_of_ble_eq_true rfl) (Nat.le_of_ble_eq_true rfl) dX4_become_112 (fun H locs hP hD hS => ?_)
  have hP : va_P G CL [(qk, .inr (3, [.int 0, .int 0, .int 0, .int 0, .int 1, .ref qkw, .ref qkn, .ref qkg, .ref qka, .ref qkr, .ref qkm, .ref qkt, .ref qks])), (qkw, .inl (cy 0, 8, .inl (va_cpy (fun _ => 0) (fun _ => 0) 0 0 8))), (qkn, .inl (cy 0, 8, .inl (va_cpy (fun _ => 0) (fun _ => 0) 0 0 8))), (qkg, .inl (cy 0, 8, .inl (va_cpy (fun _ => 0) (fun _ => 0) 0 0 8))), (qka, .inl (cy 0, 8, .inl (va_cpy (fun _ => 0) (fun _ => 0) 0 0 8))), (qkr, .inl (cy 0, 8, .inl (va_cpy (fun _ => 0) (fun _ => 0) 0 0 8))), (qkm, .inl (cy 0, 8, .inl (fun _ => 0))), (qkt, .inl (cy 0, 8, .inl (fun _ => 0))), (qks, .inl (cy 0, 64, .inl (fun _ => 0))), (qt, .inr (3, [.int 0, .int 0, .int 0, .int 0, .int 1, .ref qtw, .ref qtn, .ref qtg, .ref qta, .ref qtr, .ref qtm, .ref qtt, .ref qts])), (qtw, .inl (cy 0, 8, .inl (fun _ => 0))), (qtn, .inl (cy 0, 8, .inl (fun _ => 0))), (qtg, .inl (cy 0, 8, .inl (fun _ => 0))), (qta, .inl (cy 0, 8, .inl (fun _ => 0))), (qtr, .inl (cy 0, 8, .inl (fun _ => 0))), (qtm, .inl (cy 0, 8, .inl (fun _ => 0))), (qtt, .inl (cy 0, 8, .inl (fun _ => 0))), (qts, .inl (cy 0, 64, .inl (fun _ => 0)))] H := hP
  have hD : va_D A [(qk, .inr (3, [.int 0, .int 0, .int 0, .int 0, .int 1, .ref qkw, .ref qkn, .ref qkg, .ref qka, .ref qkr, .ref qkm, .ref qkt, .ref qks])), (qkw, .inl (cy 0, 8, .inl (va_cpy (fun _ => 0) (fun _ => 0) 0 0 8))), (qkn, .inl (cy 0, 8, .inl (va_cpy (fun _ => 0) (fun _ => 0) 0 0 8))), (qkg, .inl (cy 0, 8, .inl (va_cpy (fun _ => 0) (fun _ => 0) 0 0 8))), (qka, .inl (cy 0, 8, .inl (va_cpy (fun _ => 0) (fun _ => 0) 0 0 8))), (qkr, .inl (cy 0, 8, .inl (va_cpy (fun _ => 0) (fun _ => 0) 0 0 8))), (qkm, .inl (cy 0, 8, .inl (fun _ => 0))), (qkt, .inl (cy 0, 8, .inl (fun _ => 0))), (qks, .inl (cy 0, 64, .inl (fun _ => 0))), (qt, .inr (3, [.int 0, .int 0, .int 0, .int 0, .int 1, .ref qtw, .ref qtn, .ref qtg, .ref qta, .ref qtr, .ref qtm, .ref qtt, .ref qts])), (qtw, .inl (cy 0, 8, .inl (fun _ => 0))), (qtn, .inl (cy 0, 8, .inl (fun _ => 0))), (qtg, .inl (cy 0, 8, .inl (fun _ => 0))), (qta, .inl (cy 0, 8, .inl (fun _ => 0))), (qtr, .inl (cy 0, 8, .inl (fun _ => 0))), (qtm, .inl (cy 0, 8, .inl (fun _ => 0))), (qtt, .inl (cy 0, 8, .inl (fun _ => 0))), (qts, .inl (cy 0, 64, .inl (fun _ => 0)))] := hD
  refine lv_aload_n hx hb dX4_become_115 rfl (lv_at hl 1 rfl) ?_
  refine va_get (D := G) (ci := 3) (v := .ref qtm) (C := RX4) (T := TX4) (N := 13) hx hb hts iX_X4 hown hK hP 9 rfl rfl 10 (by decide) (hts _ m_t60) (fun _ h9 => h9) rfl dX4_become_116 ?_
  refine lv_iconst (v := 0) hx hb dX4_become_119 (by decide) ?_
  refine lv_aload_n hx hb dX4_become_120 rfl (lv_at hl 0 rfl) ?_
  refine va_get (D := G) (ci := 3) (v := .ref qkm) (C := RX4) (T := TX4) (N := 13) hx hb hts iX_X4 hown hK hP 0 rfl rfl 10 (by decide) (hts _ m_t60) (fun _ h9 => h9) rfl dX4_become_121 ?_
  refine lv_iconst (v := 0) hx hb dX4_become_124 (by decide) ?_
  refine lv_bipush (v := 8) hx hb dX4_become_125 (by decide) ?_
  refine va_copyi (ty := .int) hx hb (hml.trans hl.1.symm) hown (hts _ m_t310) (hts _ m_nat) (hts _ m_t263) (hts _ m_t7) hK hP hD hS 15 6 0 0 rfl rfl rfl rfl rfl (by decide) (by decide) (by decide) (Nat.le_of_ble_eq_true rfl) (Nat.le_of_ble_eq_true rfl) (fun _ _ => rfl) (Nat.le_of_ble_eq_true rfl) (Nat.le_of_ble_eq_true rfl) dX4_become_127 (fun H locs hP hD hS => ?_)
  have hP : va_P G CL [(qk, .inr (3, [.int 0, .int 0, .int 0, .int 0, .int 1, .ref qkw, .ref qkn, .ref qkg, .ref qka, .ref qkr, .ref qkm, .ref qkt, .ref qks])), (qkw, .inl (cy 0, 8, .inl (va_cpy (fun _ => 0) (fun _ => 0) 0 0 8))), (qkn, .inl (cy 0, 8, .inl (va_cpy (fun _ => 0) (fun _ => 0) 0 0 8))), (qkg, .inl (cy 0, 8, .inl (va_cpy (fun _ => 0) (fun _ => 0) 0 0 8))), (qka, .inl (cy 0, 8, .inl (va_cpy (fun _ => 0) (fun _ => 0) 0 0 8))), (qkr, .inl (cy 0, 8, .inl (va_cpy (fun _ => 0) (fun _ => 0) 0 0 8))), (qkm, .inl (cy 0, 8, .inl (va_cpy (fun _ => 0) (fun _ => 0) 0 0 8))), (qkt, .inl (cy 0, 8, .inl (fun _ => 0))), (qks, .inl (cy 0, 64, .inl (fun _ => 0))), (qt, .inr (3, [.int 0, .int 0, .int 0, .int 0, .int 1, .ref qtw, .ref qtn, .ref qtg, .ref qta, .ref qtr, .ref qtm, .ref qtt, .ref qts])), (qtw, .inl (cy 0, 8, .inl (fun _ => 0))), (qtn, .inl (cy 0, 8, .inl (fun _ => 0))), (qtg, .inl (cy 0, 8, .inl (fun _ => 0))), (qta, .inl (cy 0, 8, .inl (fun _ => 0))), (qtr, .inl (cy 0, 8, .inl (fun _ => 0))), (qtm, .inl (cy 0, 8, .inl (fun _ => 0))), (qtt, .inl (cy 0, 8, .inl (fun _ => 0))), (qts, .inl (cy 0, 64, .inl (fun _ => 0)))] H := hP
  have hD : va_D A [(qk, .inr (3, [.int 0, .int 0, .int 0, .int 0, .int 1, .ref qkw, .ref qkn, .ref qkg, .ref qka, .ref qkr, .ref qkm, .ref qkt, .ref qks])), (qkw, .inl (cy 0, 8, .inl (va_cpy (fun _ => 0) (fun _ => 0) 0 0 8))), (qkn, .inl (cy 0, 8, .inl (va_cpy (fun _ => 0) (fun _ => 0) 0 0 8))), (qkg, .inl (cy 0, 8, .inl (va_cpy (fun _ => 0) (fun _ => 0) 0 0 8))), (qka, .inl (cy 0, 8, .inl (va_cpy (fun _ => 0) (fun _ => 0) 0 0 8))), (qkr, .inl (cy 0, 8, .inl (va_cpy (fun _ => 0) (fun _ => 0) 0 0 8))), (qkm, .inl (cy 0, 8, .inl (va_cpy (fun _ => 0) (fun _ => 0) 0 0 8))), (qkt, .inl (cy 0, 8, .inl (fun _ => 0))), (qks, .inl (cy 0, 64, .inl (fun _ => 0))), (qt, .inr (3, [.int 0, .int 0, .int 0, .int 0, .int 1, .ref qtw, .ref qtn, .ref qtg, .ref qta, .ref qtr, .ref qtm, .ref qtt, .ref qts])), (qtw, .inl (cy 0, 8, .inl (fun _ => 0))), (qtn, .inl (cy 0, 8, .inl (fun _ => 0))), (qtg, .inl (cy 0, 8, .inl (fun _ => 0))), (qta, .inl (cy 0, 8, .inl (fun _ => 0))), (qtr, .inl (cy 0, 8, .inl (fun _ => 0))), (qtm, .inl (cy 0, 8, .inl (fun _ => 0))), (qtt, .inl (cy 0, 8, .inl (fun _ => 0))), (qts, .inl (cy 0, 64, .inl (fun _ => 0)))] := hD
  refine lv_aload_n hx hb dX4_become_130 rfl (lv_at hl 1 rfl) ?_
  refine va_get (D := G) (ci := 3) (v := .ref qtt) (C := RX4) (T := TX4) (N := 13) hx hb hts iX_X4 hown hK hP 9 rfl rfl 11 (by decide) (hts _ m_t62) (fun _ h9 => h9) rfl dX4_become_131 ?_
  refine lv_iconst (v := 0) hx hb dX4_become_134 (by decide) ?_
  refine lv_aload_n hx hb dX4_become_135 rfl (lv_at hl 0 rfl) ?_
  refine va_get (D := G) (ci := 3) (v := .ref qkt) (C := RX4) (T := TX4) (N := 13) hx hb hts iX_X4 hown hK hP 0 rfl rfl 11 (by decide) (hts _ m_t62) (fun _ h9 => h9) rfl dX4_become_136 ?_
  refine lv_iconst (v := 0) hx hb dX4_become_139 (by decide) ?_
  refine lv_bipush (v := 8) hx hb dX4_become_140 (by decide) ?_
  refine va_copyi (ty := .int) hx hb (hml.trans hl.1.symm) hown (hts _ m_t310) (hts _ m_nat) (hts _ m_t263) (hts _ m_t7) hK hP hD hS 16 7 0 0 rfl rfl rfl rfl rfl (by decide) (by decide) (by decide) (Nat.le_of_ble_eq_true rfl) (Nat.le_of_ble_eq_true rfl) (fun _ _ => rfl) (Nat.le_of_ble_eq_true rfl) (Nat.le_of_ble_eq_true rfl) dX4_become_142 (fun H locs hP hD hS => ?_)
  have hP : va_P G CL [(qk, .inr (3, [.int 0, .int 0, .int 0, .int 0, .int 1, .ref qkw, .ref qkn, .ref qkg, .ref qka, .ref qkr, .ref qkm, .ref qkt, .ref qks])), (qkw, .inl (cy 0, 8, .inl (va_cpy (fun _ => 0) (fun _ => 0) 0 0 8))), (qkn, .inl (cy 0, 8, .inl (va_cpy (fun _ => 0) (fun _ => 0) 0 0 8))), (qkg, .inl (cy 0, 8, .inl (va_cpy (fun _ => 0) (fun _ => 0) 0 0 8))), (qka, .inl (cy 0, 8, .inl (va_cpy (fun _ => 0) (fun _ => 0) 0 0 8))), (qkr, .inl (cy 0, 8, .inl (va_cpy (fun _ => 0) (fun _ => 0) 0 0 8))), (qkm, .inl (cy 0, 8, .inl (va_cpy (fun _ => 0) (fun _ => 0) 0 0 8))), (qkt, .inl (cy 0, 8, .inl (va_cpy (fun _ => 0) (fun _ => 0) 0 0 8))), (qks, .inl (cy 0, 64, .inl (fun _ => 0))), (qt, .inr (3, [.int 0, .int 0, .int 0, .int 0, .int 1, .ref qtw, .ref qtn, .ref qtg, .ref qta, .ref qtr, .ref qtm, .ref qtt, .ref qts])), (qtw, .inl (cy 0, 8, .inl (fun _ => 0))), (qtn, .inl (cy 0, 8, .inl (fun _ => 0))), (qtg, .inl (cy 0, 8, .inl (fun _ => 0))), (qta, .inl (cy 0, 8, .inl (fun _ => 0))), (qtr, .inl (cy 0, 8, .inl (fun _ => 0))), (qtm, .inl (cy 0, 8, .inl (fun _ => 0))), (qtt, .inl (cy 0, 8, .inl (fun _ => 0))), (qts, .inl (cy 0, 64, .inl (fun _ => 0)))] H := hP
  have hD : va_D A [(qk, .inr (3, [.int 0, .int 0, .int 0, .int 0, .int 1, .ref qkw, .ref qkn, .ref qkg, .ref qka, .ref qkr, .ref qkm, .ref qkt, .ref qks])), (qkw, .inl (cy 0, 8, .inl (va_cpy (fun _ => 0) (fun _ => 0) 0 0 8))), (qkn, .inl (cy 0, 8, .inl (va_cpy (fun _ => 0) (fun _ => 0) 0 0 8))), (qkg, .inl (cy 0, 8, .inl (va_cpy (fun _ => 0) (fun _ => 0) 0 0 8))), (qka, .inl (cy 0, 8, .inl (va_cpy (fun _ => 0) (fun _ => 0) 0 0 8))), (qkr, .inl (cy 0, 8, .inl (va_cpy (fun _ => 0) (fun _ => 0) 0 0 8))), (qkm, .inl (cy 0, 8, .inl (va_cpy (fun _ => 0) (fun _ => 0) 0 0 8))), (qkt, .inl (cy 0, 8, .inl (va_cpy (fun _ => 0) (fun _ => 0) 0 0 8))), (qks, .inl (cy 0, 64, .inl (fun _ => 0))), (qt, .inr (3, [.int 0, .int 0, .int 0, .int 0, .int 1, .ref qtw, .ref qtn, .ref qtg, .ref qta, .ref qtr, .ref qtm, .ref qtt, .ref qts])), (qtw, .inl (cy 0, 8, .inl (fun _ => 0))), (qtn, .inl (cy 0, 8, .inl (fun _ => 0))), (qtg, .inl (cy 0, 8, .inl (fun _ => 0))), (qta, .inl (cy 0, 8, .inl (fun _ => 0))), (qtr, .inl (cy 0, 8, .inl (fun _ => 0))), (qtm, .inl (cy 0, 8, .inl (fun _ => 0))), (qtt, .inl (cy 0, 8, .inl (fun _ => 0))), (qts, .inl (cy 0, 64, .inl (fun _ => 0)))] := hD
  refine lv_aload_n hx hb dX4_become_145 rfl (lv_at hl 1 rfl) ?_
  refine va_get (D := G) (ci := 3) (v := .ref qts) (C := RX4) (T := TX4) (N := 13) hx hb hts iX_X4 hown hK hP 9 rfl rfl 12 (by decide) (hts _ m_t64) (fun _ h9 => h9) rfl dX4_become_146 ?_
  refine lv_iconst (v := 0) hx hb dX4_become_149 (by decide) ?_
  refine lv_aload_n hx hb dX4_become_150 rfl (lv_at hl 0 rfl) ?_
  refine va_get (D := G) (ci := 3) (v := .ref qks) (C := RX4) (T := TX4) (N := 13) hx hb hts iX_X4 hown hK hP 0 rfl rfl 12 (by decide) (hts _ m_t64) (fun _ h9 => h9) rfl dX4_become_151 ?_
  refine lv_iconst (v := 0) hx hb dX4_become_154 (by decide) ?_
  refine lv_bipush (v := 64) hx hb dX4_become_155 (by decide) ?_
  refine va_copyi (ty := .int) hx hb (hml.trans hl.1.symm) hown (hts _ m_t310) (hts _ m_nat) (hts _ m_t263) (hts _ m_t7) hK hP hD hS 17 8 0 0 rfl rfl rfl rfl rfl (by decide) (by decide) (by decide) (Nat.le_of_ble_eq_true rfl) (Nat.le_of_ble_eq_true rfl) (fun _ _ => rfl) (Nat.le_of_ble_eq_true rfl) (Nat.le_of_ble_eq_true rfl) dX4_become_157 (fun H locs hP hD hS => ?_)
  have hP : va_P G CL [(qk, .inr (3, [.int 0, .int 0, .int 0, .int 0, .int 1, .ref qkw, .ref qkn, .ref qkg, .ref qka, .ref qkr, .ref qkm, .ref qkt, .ref qks])), (qkw, .inl (cy 0, 8, .inl (va_cpy (fun _ => 0) (fun _ => 0) 0 0 8))), (qkn, .inl (cy 0, 8, .inl (va_cpy (fun _ => 0) (fun _ => 0) 0 0 8))), (qkg, .inl (cy 0, 8, .inl (va_cpy (fun _ => 0) (fun _ => 0) 0 0 8))), (qka, .inl (cy 0, 8, .inl (va_cpy (fun _ => 0) (fun _ => 0) 0 0 8))), (qkr, .inl (cy 0, 8, .inl (va_cpy (fun _ => 0) (fun _ => 0) 0 0 8))), (qkm, .inl (cy 0, 8, .inl (va_cpy (fun _ => 0) (fun _ => 0) 0 0 8))), (qkt, .inl (cy 0, 8, .inl (va_cpy (fun _ => 0) (fun _ => 0) 0 0 8))), (qks, .inl (cy 0, 64, .inl (va_cpy (fun _ => 0) (fun _ => 0) 0 0 64))), (qt, .inr (3, [.int 0, .int 0, .int 0, .int 0, .int 1, .ref qtw, .ref qtn, .ref qtg, .ref qta, .ref qtr, .ref qtm, .ref qtt, .ref qts])), (qtw, .inl (cy 0, 8, .inl (fun _ => 0))), (qtn, .inl (cy 0, 8, .inl (fun _ => 0))), (qtg, .inl (cy 0, 8, .inl (fun _ => 0))), (qta, .inl (cy 0, 8, .inl (fun _ => 0))), (qtr, .inl (cy 0, 8, .inl (fun _ => 0))), (qtm, .inl (cy 0, 8, .inl (fun _ => 0))), (qtt, .inl (cy 0, 8, .inl (fun _ => 0))), (qts, .inl (cy 0, 64, .inl (fun _ => 0)))] H := hP
  have hD : va_D A [(qk, .inr (3, [.int 0, .int 0, .int 0, .int 0, .int 1, .ref qkw, .ref qkn, .ref qkg, .ref qka, .ref qkr, .ref qkm, .ref qkt, .ref qks])), (qkw, .inl (cy 0, 8, .inl (va_cpy (fun _ => 0) (fun _ => 0) 0 0 8))), (qkn, .inl (cy 0, 8, .inl (va_cpy (fun _ => 0) (fun _ => 0) 0 0 8))), (qkg, .inl (cy 0, 8, .inl (va_cpy (fun _ => 0) (fun _ => 0) 0 0 8))), (qka, .inl (cy 0, 8, .inl (va_cpy (fun _ => 0) (fun _ => 0) 0 0 8))), (qkr, .inl (cy 0, 8, .inl (va_cpy (fun _ => 0) (fun _ => 0) 0 0 8))), (qkm, .inl (cy 0, 8, .inl (va_cpy (fun _ => 0) (fun _ => 0) 0 0 8))), (qkt, .inl (cy 0, 8, .inl (va_cpy (fun _ => 0) (fun _ => 0) 0 0 8))), (qks, .inl (cy 0, 64, .inl (va_cpy (fun _ => 0) (fun _ => 0) 0 0 64))), (qt, .inr (3, [.int 0, .int 0, .int 0, .int 0, .int 1, .ref qtw, .ref qtn, .ref qtg, .ref qta, .ref qtr, .ref qtm, .ref qtt, .ref qts])), (qtw, .inl (cy 0, 8, .inl (fun _ => 0))), (qtn, .inl (cy 0, 8, .inl (fun _ => 0))), (qtg, .inl (cy 0, 8, .inl (fun _ => 0))), (qta, .inl (cy 0, 8, .inl (fun _ => 0))), (qtr, .inl (cy 0, 8, .inl (fun _ => 0))), (qtm, .inl (cy 0, 8, .inl (fun _ => 0))), (qtt, .inl (cy 0, 8, .inl (fun _ => 0))), (qts, .inl (cy 0, 64, .inl (fun _ => 0)))] := hD
  exact endV (u := []) hx hb hr hlocks va_P0 va_D0 hS rfl dX4_become_160
set_option maxHeartbeats 4000000 in
set_option maxRecDepth 100000 in
theorem c_X2_hasRow (l : Launch) (G : va_G) (cy : Nat → ClassId) (qs : Nat) (qsh : Nat) (qss : Nat) (qsa : Nat) (qse : Nat) (fH : Nat → Int32) (iA : Int32)  (hH : ∀ i, i < 8 → fH i = -1) (hI : In iA.toInt64 0 7) : MR l yX2_hasRow cX2_hasRow 2 (some .boolean) 1 G cy [(qs, .inr (1, [.ref qsh, .ref qss, .ref qsa, .ref qse])), (qsh, .inl (cy 0, 8, .inl fH))] [.ref qs, .int iA] (vp_Si (fun r => (r = 0))) := by
  refine enR RX2 (by decide) rfl (Nat.le_of_ble_eq_true rfl) (fun p e s m below meth c ls hx hb hml hown hts hr hlocks hP hN hl => ?_)
  have hK := hN.1
  have hl : lv_has ls 2 [(0, .ref qs), (1, .int iA)] := hl
  refine lv_aload_n hx hb dX2_hasRow_0 rfl (lv_at hl 0 rfl) ?_
  refine va_get (D := G) (ci := 1) (v := .ref qsh) (C := RX2) (T := TX2) (N := 4) hx hb hts iX_X2 hown hK hP 0 rfl rfl 0 (by decide) (hts _ m_t123) (fun _ h9 => h9) rfl dX2_hasRow_1 ?_
  refine lv_iload_n hx hb dX2_hasRow_4 rfl (lv_at hl 1 rfl) ?_
  refine va_iald hx hb hK hP 1 0 rfl rfl (in_shelf hI) dX2_hasRow_5 ?_
  refine lv_seti (v := (-1)) (hH _ (lt_in (in_shelf hI))) ?_
  refine lv_if_lt (tgt := 23) hx hb dX2_hasRow_6 (by decide) (fun _ => ?_) (fun h9 => absurd (by decide) h9)
  refine lv_iconst (v := 0) hx hb dX2_hasRow_23 (by decide) ?_
  exact endR hx hb hr hlocks rfl rfl dX2_hasRow_24
set_option maxHeartbeats 4000000 in
set_option maxRecDepth 100000 in
theorem c_X2_hasRule (l : Launch) (G : va_G) (cy : Nat → ClassId) (qs : Nat) (qsh : Nat) (qss : Nat) (qsa : Nat) (qse : Nat) (fH : Nat → Int32) (iA : Int32)  (hH : ∀ i, i < 8 → fH i = -1) (hI : In iA.toInt64 0 7) : MR l yX2_hasRule cX2_hasRule 2 (some .boolean) 1 G cy [(qs, .inr (1, [.ref qsh, .ref qss, .ref qsa, .ref qse])), (qsh, .inl (cy 0, 8, .inl fH))] [.ref qs, .int iA] (vp_Si (fun r => (r = 0))) := by
  refine enR RX2 (by decide) rfl (Nat.le_of_ble_eq_true rfl) (fun p e s m below meth c ls hx hb hml hown hts hr hlocks hP hN hl => ?_)
  have hK := hN.1
  have hl : lv_has ls 2 [(0, .ref qs), (1, .int iA)] := hl
  refine lv_aload_n hx hb dX2_hasRule_0 rfl (lv_at hl 0 rfl) ?_
  refine va_get (D := G) (ci := 1) (v := .ref qsh) (C := RX2) (T := TX2) (N := 4) hx hb hts iX_X2 hown hK hP 0 rfl rfl 0 (by decide) (hts _ m_t123) (fun _ h9 => h9) rfl dX2_hasRule_1 ?_
  refine lv_iload_n hx hb dX2_hasRule_4 rfl (lv_at hl 1 rfl) ?_
  refine va_iald hx hb hK hP 1 0 rfl rfl (in_shelf hI) dX2_hasRule_5 ?_
  refine lv_seti (v := (-1)) (hH _ (lt_in (in_shelf hI))) ?_
  refine lv_bipush (v := 10) hx hb dX2_hasRule_6 (by decide) ?_
  refine lv_icmp_lt (tgt := 15) hx hb dX2_hasRule_8 (by decide) (fun _ => ?_) (fun h9 => absurd (by decide) h9)
  refine lv_iconst (v := 0) hx hb dX2_hasRule_15 (by decide) ?_
  exact endR hx hb hr hlocks rfl rfl dX2_hasRule_16
set_option maxHeartbeats 4000000 in
set_option maxRecDepth 100000 in
theorem c_X2_countHolding (l : Launch) (G : va_G) (cy : Nat → ClassId) (qs : Nat) (qsh : Nat) (qss : Nat) (qsa : Nat) (qse : Nat) (fH : Nat → Int32)  (hH : ∀ i, i < 8 → fH i = -1) : MR l yX2_countHolding cX2_countHolding 3 (some .int) 1 G cy [(qs, .inr (1, [.ref qsh, .ref qss, .ref qsa, .ref qse])), (qsh, .inl (cy 0, 8, .inl fH))] [.ref qs] (vp_Si (fun r => (r = 0))) := by
  refine enR RX2 (by decide) rfl (Nat.le_of_ble_eq_true rfl) (fun p e s m below meth c ls hx hb hml hown hts hr hlocks hP hN hl => ?_)
  have hK := hN.1
  have hl : lv_has ls 3 [(0, .ref qs)] := hl
  refine lv_iconst (v := 0) hx hb dX2_countHolding_0 (by decide) ?_
  refine lv_istore_n (lv' := [(1, .int 0), (0, .ref qs)]) hx hb dX2_countHolding_1 rfl hl (by decide) rfl (fun ls hl => ?_)
  refine lv_iconst (v := 0) hx hb dX2_countHolding_2 (by decide) ?_
  refine lv_istore_n (lv' := [(2, .int 0), (1, .int 0), (0, .ref qs)]) hx hb dX2_countHolding_3 rfl hl (by decide) rfl (fun ls hl => ?_)
  refine lv_iload_n hx hb dX2_countHolding_4 rfl (lv_at hl 0 rfl) ?_
  refine lv_bipush (v := 8) hx hb dX2_countHolding_5 (by decide) ?_
  refine lv_icmp_ge (tgt := 29) hx hb dX2_countHolding_7 (by decide) (fun h9 => absurd h9 (by decide)) (fun _ => ?_)
  refine lv_aload_n hx hb dX2_countHolding_10 rfl (lv_at hl 2 rfl) ?_
  refine va_get (D := G) (ci := 1) (v := .ref qsh) (C := RX2) (T := TX2) (N := 4) hx hb hts iX_X2 hown hK hP 0 rfl rfl 0 (by decide) (hts _ m_t123) (fun _ h9 => h9) rfl dX2_countHolding_11 ?_
  refine lv_iload_n hx hb dX2_countHolding_14 rfl (lv_at hl 0 rfl) ?_
  refine va_iald hx hb hK hP 1 0 rfl rfl (in_c rfl) dX2_countHolding_15 ?_
  refine lv_seti (v := (-1)) (hH _ (by decide)) ?_
  refine lv_iconst (v := (-1)) hx hb dX2_countHolding_16 (by decide) ?_
  refine lv_icmp_eq (tgt := 23) hx hb dX2_countHolding_17 (by decide) (fun _ => ?_) (fun h9 => absurd (by decide) h9)
  refine lv_iinc (v := 1) (lv' := [(2, .int 1), (1, .int 0), (0, .ref qs)]) hx hb dX2_countHolding_23 hl (k := 0) rfl (by decide) (by decide) rfl (fun ls hl => ?_)
  refine lv_goto (tgt := 4) hx hb dX2_countHolding_26 (by decide) ?_
  refine lv_iload_n hx hb dX2_countHolding_4 rfl (lv_at hl 0 rfl) ?_
  refine lv_bipush (v := 8) hx hb dX2_countHolding_5 (by decide) ?_
  refine lv_icmp_ge (tgt := 29) hx hb dX2_countHolding_7 (by decide) (fun h9 => absurd h9 (by decide)) (fun _ => ?_)
  refine lv_aload_n hx hb dX2_countHolding_10 rfl (lv_at hl 2 rfl) ?_
  refine va_get (D := G) (ci := 1) (v := .ref qsh) (C := RX2) (T := TX2) (N := 4) hx hb hts iX_X2 hown hK hP 0 rfl rfl 0 (by decide) (hts _ m_t123) (fun _ h9 => h9) rfl dX2_countHolding_11 ?_
  refine lv_iload_n hx hb dX2_countHolding_14 rfl (lv_at hl 0 rfl) ?_
  refine va_iald hx hb hK hP 1 0 rfl rfl (in_c rfl) dX2_countHolding_15 ?_
  refine lv_seti (v := (-1)) (hH _ (by decide)) ?_
  refine lv_iconst (v := (-1)) hx hb dX2_countHolding_16 (by decide) ?_
  refine lv_icmp_eq (tgt := 23) hx hb dX2_countHolding_17 (by decide) (fun _ => ?_) (fun h9 => absurd (by decide) h9)
  refine lv_iinc (v := 2) (lv' := [(2, .int 2), (1, .int 0), (0, .ref qs)]) hx hb dX2_countHolding_23 hl (k := 0) rfl (by decide) (by decide) rfl (fun ls hl => ?_)
  refine lv_goto (tgt := 4) hx hb dX2_countHolding_26 (by decide) ?_
  refine lv_iload_n hx hb dX2_countHolding_4 rfl (lv_at hl 0 rfl) ?_
  refine lv_bipush (v := 8) hx hb dX2_countHolding_5 (by decide) ?_
  refine lv_icmp_ge (tgt := 29) hx hb dX2_countHolding_7 (by decide) (fun h9 => absurd h9 (by decide)) (fun _ => ?_)
  refine lv_aload_n hx hb dX2_countHolding_10 rfl (lv_at hl 2 rfl) ?_
  refine va_get (D := G) (ci := 1) (v := .ref qsh) (C := RX2) (T := TX2) (N := 4) hx hb hts iX_X2 hown hK hP 0 rfl rfl 0 (by decide) (hts _ m_t123) (fun _ h9 => h9) rfl dX2_countHolding_11 ?_
  refine lv_iload_n hx hb dX2_countHolding_14 rfl (lv_at hl 0 rfl) ?_
  refine va_iald hx hb hK hP 1 0 rfl rfl (in_c rfl) dX2_countHolding_15 ?_
  refine lv_seti (v := (-1)) (hH _ (by decide)) ?_
  refine lv_iconst (v := (-1)) hx hb dX2_countHolding_16 (by decide) ?_
  refine lv_icmp_eq (tgt := 23) hx hb dX2_countHolding_17 (by decide) (fun _ => ?_) (fun h9 => absurd (by decide) h9)
  refine lv_iinc (v := 3) (lv' := [(2, .int 3), (1, .int 0), (0, .ref qs)]) hx hb dX2_countHolding_23 hl (k := 0) rfl (by decide) (by decide) rfl (fun ls hl => ?_)
  refine lv_goto (tgt := 4) hx hb dX2_countHolding_26 (by decide) ?_
  refine lv_iload_n hx hb dX2_countHolding_4 rfl (lv_at hl 0 rfl) ?_
  refine lv_bipush (v := 8) hx hb dX2_countHolding_5 (by decide) ?_
  refine lv_icmp_ge (tgt := 29) hx hb dX2_countHolding_7 (by decide) (fun h9 => absurd h9 (by decide)) (fun _ => ?_)
  refine lv_aload_n hx hb dX2_countHolding_10 rfl (lv_at hl 2 rfl) ?_
  refine va_get (D := G) (ci := 1) (v := .ref qsh) (C := RX2) (T := TX2) (N := 4) hx hb hts iX_X2 hown hK hP 0 rfl rfl 0 (by decide) (hts _ m_t123) (fun _ h9 => h9) rfl dX2_countHolding_11 ?_
  refine lv_iload_n hx hb dX2_countHolding_14 rfl (lv_at hl 0 rfl) ?_
  refine va_iald hx hb hK hP 1 0 rfl rfl (in_c rfl) dX2_countHolding_15 ?_
  refine lv_seti (v := (-1)) (hH _ (by decide)) ?_
  refine lv_iconst (v := (-1)) hx hb dX2_countHolding_16 (by decide) ?_
  refine lv_icmp_eq (tgt := 23) hx hb dX2_countHolding_17 (by decide) (fun _ => ?_) (fun h9 => absurd (by decide) h9)
  refine lv_iinc (v := 4) (lv' := [(2, .int 4), (1, .int 0), (0, .ref qs)]) hx hb dX2_countHolding_23 hl (k := 0) rfl (by decide) (by decide) rfl (fun ls hl => ?_)
  refine lv_goto (tgt := 4) hx hb dX2_countHolding_26 (by decide) ?_
  refine lv_iload_n hx hb dX2_countHolding_4 rfl (lv_at hl 0 rfl) ?_
  refine lv_bipush (v := 8) hx hb dX2_countHolding_5 (by decide) ?_
  refine lv_icmp_ge (tgt := 29) hx hb dX2_countHolding_7 (by decide) (fun h9 => absurd h9 (by decide)) (fun _ => ?_)
  refine lv_aload_n hx hb dX2_countHolding_10 rfl (lv_at hl 2 rfl) ?_
  refine va_get (D := G) (ci := 1) (v := .ref qsh) (C := RX2) (T := TX2) (N := 4) hx hb hts iX_X2 hown hK hP 0 rfl rfl 0 (by decide) (hts _ m_t123) (fun _ h9 => h9) rfl dX2_countHolding_11 ?_
  refine lv_iload_n hx hb dX2_countHolding_14 rfl (lv_at hl 0 rfl) ?_
  refine va_iald hx hb hK hP 1 0 rfl rfl (in_c rfl) dX2_countHolding_15 ?_
  refine lv_seti (v := (-1)) (hH _ (by decide)) ?_
  refine lv_iconst (v := (-1)) hx hb dX2_countHolding_16 (by decide) ?_
  refine lv_icmp_eq (tgt := 23) hx hb dX2_countHolding_17 (by decide) (fun _ => ?_) (fun h9 => absurd (by decide) h9)
  refine lv_iinc (v := 5) (lv' := [(2, .int 5), (1, .int 0), (0, .ref qs)]) hx hb dX2_countHolding_23 hl (k := 0) rfl (by decide) (by decide) rfl (fun ls hl => ?_)
  refine lv_goto (tgt := 4) hx hb dX2_countHolding_26 (by decide) ?_
  refine lv_iload_n hx hb dX2_countHolding_4 rfl (lv_at hl 0 rfl) ?_
  refine lv_bipush (v := 8) hx hb dX2_countHolding_5 (by decide) ?_
  refine lv_icmp_ge (tgt := 29) hx hb dX2_countHolding_7 (by decide) (fun h9 => absurd h9 (by decide)) (fun _ => ?_)
  refine lv_aload_n hx hb dX2_countHolding_10 rfl (lv_at hl 2 rfl) ?_
  refine va_get (D := G) (ci := 1) (v := .ref qsh) (C := RX2) (T := TX2) (N := 4) hx hb hts iX_X2 hown hK hP 0 rfl rfl 0 (by decide) (hts _ m_t123) (fun _ h9 => h9) rfl dX2_countHolding_11 ?_
  refine lv_iload_n hx hb dX2_countHolding_14 rfl (lv_at hl 0 rfl) ?_
  refine va_iald hx hb hK hP 1 0 rfl rfl (in_c rfl) dX2_countHolding_15 ?_
  refine lv_seti (v := (-1)) (hH _ (by decide)) ?_
  refine lv_iconst (v := (-1)) hx hb dX2_countHolding_16 (by decide) ?_
  refine lv_icmp_eq (tgt := 23) hx hb dX2_countHolding_17 (by decide) (fun _ => ?_) (fun h9 => absurd (by decide) h9)
  refine lv_iinc (v := 6) (lv' := [(2, .int 6), (1, .int 0), (0, .ref qs)]) hx hb dX2_countHolding_23 hl (k := 0) rfl (by decide) (by decide) rfl (fun ls hl => ?_)
  refine lv_goto (tgt := 4) hx hb dX2_countHolding_26 (by decide) ?_
  refine lv_iload_n hx hb dX2_countHolding_4 rfl (lv_at hl 0 rfl) ?_
  refine lv_bipush (v := 8) hx hb dX2_countHolding_5 (by decide) ?_
  refine lv_icmp_ge (tgt := 29) hx hb dX2_countHolding_7 (by decide) (fun h9 => absurd h9 (by decide)) (fun _ => ?_)
  refine lv_aload_n hx hb dX2_countHolding_10 rfl (lv_at hl 2 rfl) ?_
  refine va_get (D := G) (ci := 1) (v := .ref qsh) (C := RX2) (T := TX2) (N := 4) hx hb hts iX_X2 hown hK hP 0 rfl rfl 0 (by decide) (hts _ m_t123) (fun _ h9 => h9) rfl dX2_countHolding_11 ?_
  refine lv_iload_n hx hb dX2_countHolding_14 rfl (lv_at hl 0 rfl) ?_
  refine va_iald hx hb hK hP 1 0 rfl rfl (in_c rfl) dX2_countHolding_15 ?_
  refine lv_seti (v := (-1)) (hH _ (by decide)) ?_
  refine lv_iconst (v := (-1)) hx hb dX2_countHolding_16 (by decide) ?_
  refine lv_icmp_eq (tgt := 23) hx hb dX2_countHolding_17 (by decide) (fun _ => ?_) (fun h9 => absurd (by decide) h9)
  refine lv_iinc (v := 7) (lv' := [(2, .int 7), (1, .int 0), (0, .ref qs)]) hx hb dX2_countHolding_23 hl (k := 0) rfl (by decide) (by decide) rfl (fun ls hl => ?_)
  refine lv_goto (tgt := 4) hx hb dX2_countHolding_26 (by decide) ?_
  refine lv_iload_n hx hb dX2_countHolding_4 rfl (lv_at hl 0 rfl) ?_
  refine lv_bipush (v := 8) hx hb dX2_countHolding_5 (by decide) ?_
  refine lv_icmp_ge (tgt := 29) hx hb dX2_countHolding_7 (by decide) (fun h9 => absurd h9 (by decide)) (fun _ => ?_)
  refine lv_aload_n hx hb dX2_countHolding_10 rfl (lv_at hl 2 rfl) ?_
  refine va_get (D := G) (ci := 1) (v := .ref qsh) (C := RX2) (T := TX2) (N := 4) hx hb hts iX_X2 hown hK hP 0 rfl rfl 0 (by decide) (hts _ m_t123) (fun _ h9 => h9) rfl dX2_countHolding_11 ?_
  refine lv_iload_n hx hb dX2_countHolding_14 rfl (lv_at hl 0 rfl) ?_
  refine va_iald hx hb hK hP 1 0 rfl rfl (in_c rfl) dX2_countHolding_15 ?_
  refine lv_seti (v := (-1)) (hH _ (by decide)) ?_
  refine lv_iconst (v := (-1)) hx hb dX2_countHolding_16 (by decide) ?_
  refine lv_icmp_eq (tgt := 23) hx hb dX2_countHolding_17 (by decide) (fun _ => ?_) (fun h9 => absurd (by decide) h9)
  refine lv_iinc (v := 8) (lv' := [(2, .int 8), (1, .int 0), (0, .ref qs)]) hx hb dX2_countHolding_23 hl (k := 0) rfl (by decide) (by decide) rfl (fun ls hl => ?_)
  refine lv_goto (tgt := 4) hx hb dX2_countHolding_26 (by decide) ?_
  refine lv_iload_n hx hb dX2_countHolding_4 rfl (lv_at hl 0 rfl) ?_
  refine lv_bipush (v := 8) hx hb dX2_countHolding_5 (by decide) ?_
  refine lv_icmp_ge (tgt := 29) hx hb dX2_countHolding_7 (by decide) (fun _ => ?_) (fun h9 => absurd (by decide) h9)
  refine lv_iload_n hx hb dX2_countHolding_29 rfl (lv_at hl 1 rfl) ?_
  exact endR hx hb hr hlocks rfl rfl dX2_countHolding_30
set_option maxHeartbeats 4000000 in
set_option maxRecDepth 100000 in
theorem c_X2_putRule (l : Launch) (G : va_G) (cy : Nat → ClassId) (sz : Nat) (qs : Nat) (qsh : Nat) (qss : Nat) (qsa : Nat) (qse : Nat) (fH : Nat → Int32) (iA : Int32) (iB : Int32) (iC : Int32)  (hH : ∀ i, i < 8 → fH i = -1) (hI : In iA.toInt64 0 7) : MW l yX2_putRule cX2_putRule 4 none 1 0 0 G cy [(qs, .inr (1, [.ref qsh, .ref qss, .ref qsa, .ref qse])), (qsh, .inl (cy 0, 8, .inl fH)), (qsa, .inl (cy 0, 8, .inl (fun _ => 0)))] sz [.ref qs, .int iA, .int iB, .int iC] (Wv G (fun u => u = [])) := by
  refine enW RX2 (by decide) rfl (Nat.le_of_ble_eq_true rfl) (fun p e s m below meth c ls A hx hb hml hown hts hr hlocks hP hN hl hin hD hA hS => ?_)
  have hin : meth.name = _ := hin
  have hK := hN.1
  have hl : lv_has ls 4 [(0, .ref qs), (1, .int iA), (2, .int iB), (3, .int iC)] := hl
  refine lv_aload_n hx hb dX2_putRule_0 rfl (lv_at hl 0 rfl) ?_
  refine va_get (D := G) (ci := 1) (v := .ref qsh) (C := RX2) (T := TX2) (N := 4) hx hb hts iX_X2 hown hK hP 0 rfl rfl 0 (by decide) (hts _ m_t123) (fun _ h9 => h9) rfl dX2_putRule_1 ?_
  refine lv_iload_n hx hb dX2_putRule_4 rfl (lv_at hl 1 rfl) ?_
  refine lv_bipush (v := 10) hx hb dX2_putRule_5 (by decide) ?_
  refine lv_iload_n hx hb dX2_putRule_7 rfl (lv_at hl 2 rfl) ?_
  refine lv_iadd hx hb dX2_putRule_8 ?_
  refine va_iast hx hb hK hP hD hS 1 0 rfl rfl (in_shelf hI) dX2_putRule_9 (fun H locs hP hD hS => ?_)
  have hP : va_P G CL [(qs, .inr (1, [.ref qsh, .ref qss, .ref qsa, .ref qse])), (qsh, .inl (cy 0, 8, .inl (upd fH iA.toNatClampNeg (10 + iB)))), (qsa, .inl (cy 0, 8, .inl (fun _ => 0)))] H := hP
  have hD : va_D A [(qs, .inr (1, [.ref qsh, .ref qss, .ref qsa, .ref qse])), (qsh, .inl (cy 0, 8, .inl (upd fH iA.toNatClampNeg (10 + iB)))), (qsa, .inl (cy 0, 8, .inl (fun _ => 0)))] := hD
  refine lv_aload_n hx hb dX2_putRule_10 rfl (lv_at hl 0 rfl) ?_
  refine va_get (D := G) (ci := 1) (v := .ref qsa) (C := RX2) (T := TX2) (N := 4) hx hb hts iX_X2 hown hK hP 0 rfl rfl 2 (by decide) (hts _ m_t127) (fun _ h9 => h9) rfl dX2_putRule_11 ?_
  refine lv_iload_n hx hb dX2_putRule_14 rfl (lv_at hl 1 rfl) ?_
  refine lv_iload_n hx hb dX2_putRule_15 rfl (lv_at hl 3 rfl) ?_
  refine va_iast hx hb hK hP hD hS 2 0 rfl rfl (in_shelf hI) dX2_putRule_16 (fun H locs hP hD hS => ?_)
  have hP : va_P G CL [(qs, .inr (1, [.ref qsh, .ref qss, .ref qsa, .ref qse])), (qsh, .inl (cy 0, 8, .inl (upd fH iA.toNatClampNeg (10 + iB)))), (qsa, .inl (cy 0, 8, .inl (upd (fun _ => 0) iA.toNatClampNeg iC)))] H := hP
  have hD : va_D A [(qs, .inr (1, [.ref qsh, .ref qss, .ref qsa, .ref qse])), (qsh, .inl (cy 0, 8, .inl (upd fH iA.toNatClampNeg (10 + iB)))), (qsa, .inl (cy 0, 8, .inl (upd (fun _ => 0) iA.toNatClampNeg iC)))] := hD
  exact endV (u := []) hx hb hr hlocks va_P0 va_D0 hS rfl dX2_putRule_17
set_option maxHeartbeats 4000000 in
set_option maxRecDepth 100000 in
theorem c_X5_refuse2 (l : Launch) (G : va_G) (cy : Nat → ClassId) (sz : Nat) (qx : Nat) (v1 : Value) (v2 : Value) (v3 : Value) (v4 : Value) (v5 : Value) (qr : Nat) (v6 : Value) (v7 : Value) (v8 : Value) (fR : Nat → Int32)   : MW l yX5_refuse cX5_refuse 3 (some .int) 2 0 0 G cy [(qx, .inr (4, [v1, v2, v3, v4, v5, .ref qr, v6, v7, v8])), (qr, .inl (cy 0, 5, .inl fR))] sz [.ref qx, .int (-2)] (Wi G (fun r u => u = [] ∧ ((r = (-2))))) := by
  refine enW RX5 (by decide) rfl (Nat.le_of_ble_eq_true rfl) (fun p e s m below meth c ls A hx hb hml hown hts hr hlocks hP hN hl hin hD hA hS => ?_)
  have hin : meth.name = _ := hin
  have hK := hN.1
  have hl : lv_has ls 3 [(0, .ref qx), (1, .int (-2))] := hl
  refine lv_bipush (v := (-2)) hx hb dX5_refuse_0 (by decide) ?_
  refine lv_iload_n hx hb dX5_refuse_2 rfl (lv_at hl 1 rfl) ?_
  refine lv_isub hx hb dX5_refuse_3 ?_
  refine lv_seti (v := 0) (by decide) ?_
  refine lv_istore_n (lv' := [(2, .int 0), (0, .ref qx), (1, .int (-2))]) hx hb dX5_refuse_4 rfl hl (by decide) rfl (fun ls hl => ?_)
  refine lv_iload_n hx hb dX5_refuse_5 rfl (lv_at hl 0 rfl) ?_
  refine lv_i2l (v := 0) hx hb dX5_refuse_6 (by decide) ?_
  refine lv_lconst (v := 0) hx hb dX5_refuse_7 (by decide) ?_
  refine lv_aload_n hx hb dX5_refuse_8 rfl (lv_at hl 1 rfl) ?_
  refine va_get (D := G) (ci := 4) (v := .ref qr) (C := RX5) (T := TX5) (N := 9) hx hb hts iX_X5 hown hK hP 0 rfl rfl 5 (by decide) (hts _ m_t179) (fun _ h9 => h9) rfl dX5_refuse_9 ?_
  refine va_alen hx hb hK hP 1 0 rfl rfl (v := 5) rfl dX5_refuse_12 ?_
  refine lv_iconst (v := 1) hx hb dX5_refuse_13 (by decide) ?_
  refine lv_isub hx hb dX5_refuse_14 ?_
  refine lv_seti (v := 4) (by decide) ?_
  refine lv_i2l (v := 4) hx hb dX5_refuse_15 (by decide) ?_
  refine kRi (rS (As := [.long 0, .long 0, .long 4]) (rest := []) ⟨hx, hb, hml, hown, hts⟩ (c_X5_within l G cy 0 0 4) L_X5_50 (preRS hN hP [] rfl) rfl ⟨Nat.le_of_ble_eq_true rfl, Nat.le_of_ble_eq_true rfl⟩ hl.1 (Nat.le_of_ble_eq_true rfl) dX5_refuse_16 ⟨Nat.le_of_ble_eq_true rfl, Nat.le_of_ble_eq_true rfl⟩) (fun r_1 h_2 => ?_)
  rcases h_2 with ⟨rfl, h_3⟩ | ⟨rfl, h_3⟩
  · refine lv_if_eq (tgt := 32) hx hb dX5_refuse_19 (by decide) (fun h9 => absurd h9 (by decide)) (fun _ => ?_)
    refine lv_aload_n hx hb dX5_refuse_22 rfl (lv_at hl 1 rfl) ?_
    refine va_get (D := G) (ci := 4) (v := .ref qr) (C := RX5) (T := TX5) (N := 9) hx hb hts iX_X5 hown hK hP 0 rfl rfl 5 (by decide) (hts _ m_t179) (fun _ h9 => h9) rfl dX5_refuse_23 ?_
    refine lv_iload_n hx hb dX5_refuse_26 rfl (lv_at hl 0 rfl) ?_
    refine lv_dup2_11 hx hb dX5_refuse_27 rfl rfl ?_
    refine va_iald hx hb hK hP 1 0 rfl rfl (in_c rfl) dX5_refuse_28 ?_
    refine lv_seti (v := fR 0) (congrArg fR (by decide)) ?_
    refine lv_iconst (v := 1) hx hb dX5_refuse_29 (by decide) ?_
    refine lv_iadd hx hb dX5_refuse_30 ?_
    refine va_iast hx hb hK hP hD hS 1 0 rfl rfl (in_c rfl) dX5_refuse_31 (fun H locs hP hD hS => ?_)
    have hP : va_P G CL [(qx, .inr (4, [v1, v2, v3, v4, v5, .ref qr, v6, v7, v8])), (qr, .inl (cy 0, 5, .inl (upd fR 0 ((fR 0) + 1))))] H := hP
    have hD : va_D A [(qx, .inr (4, [v1, v2, v3, v4, v5, .ref qr, v6, v7, v8])), (qr, .inl (cy 0, 5, .inl (upd fR 0 ((fR 0) + 1))))] := hD
    refine lv_iload_n hx hb dX5_refuse_32 rfl (lv_at hl 2 rfl) ?_
    exact endW (u := []) hx hb hr hlocks rfl va_P0 va_D0 hS ⟨rfl, rfl⟩ dX5_refuse_33
  · exact absurd (by unfold In; decide) h_3
set_option maxHeartbeats 4000000 in
set_option maxRecDepth 100000 in
theorem c_X5_refuse4 (l : Launch) (G : va_G) (cy : Nat → ClassId) (sz : Nat) (qx : Nat) (v1 : Value) (v2 : Value) (v3 : Value) (v4 : Value) (v5 : Value) (qr : Nat) (v6 : Value) (v7 : Value) (v8 : Value) (fR : Nat → Int32)   : MW l yX5_refuse cX5_refuse 3 (some .int) 2 0 0 G cy [(qx, .inr (4, [v1, v2, v3, v4, v5, .ref qr, v6, v7, v8])), (qr, .inl (cy 0, 5, .inl fR))] sz [.ref qx, .int (-4)] (Wi G (fun r u => u = [] ∧ ((r = (-4))))) := by
  refine enW RX5 (by decide) rfl (Nat.le_of_ble_eq_true rfl) (fun p e s m below meth c ls A hx hb hml hown hts hr hlocks hP hN hl hin hD hA hS => ?_)
  have hin : meth.name = _ := hin
  have hK := hN.1
  have hl : lv_has ls 3 [(0, .ref qx), (1, .int (-4))] := hl
  refine lv_bipush (v := (-2)) hx hb dX5_refuse_0 (by decide) ?_
  refine lv_iload_n hx hb dX5_refuse_2 rfl (lv_at hl 1 rfl) ?_
  refine lv_isub hx hb dX5_refuse_3 ?_
  refine lv_seti (v := 2) (by decide) ?_
  refine lv_istore_n (lv' := [(2, .int 2), (0, .ref qx), (1, .int (-4))]) hx hb dX5_refuse_4 rfl hl (by decide) rfl (fun ls hl => ?_)
  refine lv_iload_n hx hb dX5_refuse_5 rfl (lv_at hl 0 rfl) ?_
  refine lv_i2l (v := 2) hx hb dX5_refuse_6 (by decide) ?_
  refine lv_lconst (v := 0) hx hb dX5_refuse_7 (by decide) ?_
  refine lv_aload_n hx hb dX5_refuse_8 rfl (lv_at hl 1 rfl) ?_
  refine va_get (D := G) (ci := 4) (v := .ref qr) (C := RX5) (T := TX5) (N := 9) hx hb hts iX_X5 hown hK hP 0 rfl rfl 5 (by decide) (hts _ m_t179) (fun _ h9 => h9) rfl dX5_refuse_9 ?_
  refine va_alen hx hb hK hP 1 0 rfl rfl (v := 5) rfl dX5_refuse_12 ?_
  refine lv_iconst (v := 1) hx hb dX5_refuse_13 (by decide) ?_
  refine lv_isub hx hb dX5_refuse_14 ?_
  refine lv_seti (v := 4) (by decide) ?_
  refine lv_i2l (v := 4) hx hb dX5_refuse_15 (by decide) ?_
  refine kRi (rS (As := [.long 2, .long 0, .long 4]) (rest := []) ⟨hx, hb, hml, hown, hts⟩ (c_X5_within l G cy 2 0 4) L_X5_50 (preRS hN hP [] rfl) rfl ⟨Nat.le_of_ble_eq_true rfl, Nat.le_of_ble_eq_true rfl⟩ hl.1 (Nat.le_of_ble_eq_true rfl) dX5_refuse_16 ⟨Nat.le_of_ble_eq_true rfl, Nat.le_of_ble_eq_true rfl⟩) (fun r_1 h_2 => ?_)
  rcases h_2 with ⟨rfl, h_3⟩ | ⟨rfl, h_3⟩
  · refine lv_if_eq (tgt := 32) hx hb dX5_refuse_19 (by decide) (fun h9 => absurd h9 (by decide)) (fun _ => ?_)
    refine lv_aload_n hx hb dX5_refuse_22 rfl (lv_at hl 1 rfl) ?_
    refine va_get (D := G) (ci := 4) (v := .ref qr) (C := RX5) (T := TX5) (N := 9) hx hb hts iX_X5 hown hK hP 0 rfl rfl 5 (by decide) (hts _ m_t179) (fun _ h9 => h9) rfl dX5_refuse_23 ?_
    refine lv_iload_n hx hb dX5_refuse_26 rfl (lv_at hl 0 rfl) ?_
    refine lv_dup2_11 hx hb dX5_refuse_27 rfl rfl ?_
    refine va_iald hx hb hK hP 1 0 rfl rfl (in_c rfl) dX5_refuse_28 ?_
    refine lv_seti (v := fR 2) (congrArg fR (by decide)) ?_
    refine lv_iconst (v := 1) hx hb dX5_refuse_29 (by decide) ?_
    refine lv_iadd hx hb dX5_refuse_30 ?_
    refine va_iast hx hb hK hP hD hS 1 0 rfl rfl (in_c rfl) dX5_refuse_31 (fun H locs hP hD hS => ?_)
    have hP : va_P G CL [(qx, .inr (4, [v1, v2, v3, v4, v5, .ref qr, v6, v7, v8])), (qr, .inl (cy 0, 5, .inl (upd fR 2 ((fR 2) + 1))))] H := hP
    have hD : va_D A [(qx, .inr (4, [v1, v2, v3, v4, v5, .ref qr, v6, v7, v8])), (qr, .inl (cy 0, 5, .inl (upd fR 2 ((fR 2) + 1))))] := hD
    refine lv_iload_n hx hb dX5_refuse_32 rfl (lv_at hl 2 rfl) ?_
    exact endW (u := []) hx hb hr hlocks rfl va_P0 va_D0 hS ⟨rfl, rfl⟩ dX5_refuse_33
  · exact absurd (by unfold In; decide) h_3
set_option maxHeartbeats 4000000 in
set_option maxRecDepth 100000 in
theorem c_X5_refuse5 (l : Launch) (G : va_G) (cy : Nat → ClassId) (sz : Nat) (qx : Nat) (v1 : Value) (v2 : Value) (v3 : Value) (v4 : Value) (v5 : Value) (qr : Nat) (v6 : Value) (v7 : Value) (v8 : Value) (fR : Nat → Int32)   : MW l yX5_refuse cX5_refuse 3 (some .int) 2 0 0 G cy [(qx, .inr (4, [v1, v2, v3, v4, v5, .ref qr, v6, v7, v8])), (qr, .inl (cy 0, 5, .inl fR))] sz [.ref qx, .int (-5)] (Wi G (fun r u => u = [] ∧ ((r = (-5))))) := by
  refine enW RX5 (by decide) rfl (Nat.le_of_ble_eq_true rfl) (fun p e s m below meth c ls A hx hb hml hown hts hr hlocks hP hN hl hin hD hA hS => ?_)
  have hin : meth.name = _ := hin
  have hK := hN.1
  have hl : lv_has ls 3 [(0, .ref qx), (1, .int (-5))] := hl
  refine lv_bipush (v := (-2)) hx hb dX5_refuse_0 (by decide) ?_
  refine lv_iload_n hx hb dX5_refuse_2 rfl (lv_at hl 1 rfl) ?_
  refine lv_isub hx hb dX5_refuse_3 ?_
  refine lv_seti (v := 3) (by decide) ?_
  refine lv_istore_n (lv' := [(2, .int 3), (0, .ref qx), (1, .int (-5))]) hx hb dX5_refuse_4 rfl hl (by decide) rfl (fun ls hl => ?_)
  refine lv_iload_n hx hb dX5_refuse_5 rfl (lv_at hl 0 rfl) ?_
  refine lv_i2l (v := 3) hx hb dX5_refuse_6 (by decide) ?_
  refine lv_lconst (v := 0) hx hb dX5_refuse_7 (by decide) ?_
  refine lv_aload_n hx hb dX5_refuse_8 rfl (lv_at hl 1 rfl) ?_
  refine va_get (D := G) (ci := 4) (v := .ref qr) (C := RX5) (T := TX5) (N := 9) hx hb hts iX_X5 hown hK hP 0 rfl rfl 5 (by decide) (hts _ m_t179) (fun _ h9 => h9) rfl dX5_refuse_9 ?_
  refine va_alen hx hb hK hP 1 0 rfl rfl (v := 5) rfl dX5_refuse_12 ?_
  refine lv_iconst (v := 1) hx hb dX5_refuse_13 (by decide) ?_
  refine lv_isub hx hb dX5_refuse_14 ?_
  refine lv_seti (v := 4) (by decide) ?_
  refine lv_i2l (v := 4) hx hb dX5_refuse_15 (by decide) ?_
  refine kRi (rS (As := [.long 3, .long 0, .long 4]) (rest := []) ⟨hx, hb, hml, hown, hts⟩ (c_X5_within l G cy 3 0 4) L_X5_50 (preRS hN hP [] rfl) rfl ⟨Nat.le_of_ble_eq_true rfl, Nat.le_of_ble_eq_true rfl⟩ hl.1 (Nat.le_of_ble_eq_true rfl) dX5_refuse_16 ⟨Nat.le_of_ble_eq_true rfl, Nat.le_of_ble_eq_true rfl⟩) (fun r_1 h_2 => ?_)
  rcases h_2 with ⟨rfl, h_3⟩ | ⟨rfl, h_3⟩
  · refine lv_if_eq (tgt := 32) hx hb dX5_refuse_19 (by decide) (fun h9 => absurd h9 (by decide)) (fun _ => ?_)
    refine lv_aload_n hx hb dX5_refuse_22 rfl (lv_at hl 1 rfl) ?_
    refine va_get (D := G) (ci := 4) (v := .ref qr) (C := RX5) (T := TX5) (N := 9) hx hb hts iX_X5 hown hK hP 0 rfl rfl 5 (by decide) (hts _ m_t179) (fun _ h9 => h9) rfl dX5_refuse_23 ?_
    refine lv_iload_n hx hb dX5_refuse_26 rfl (lv_at hl 0 rfl) ?_
    refine lv_dup2_11 hx hb dX5_refuse_27 rfl rfl ?_
    refine va_iald hx hb hK hP 1 0 rfl rfl (in_c rfl) dX5_refuse_28 ?_
    refine lv_seti (v := fR 3) (congrArg fR (by decide)) ?_
    refine lv_iconst (v := 1) hx hb dX5_refuse_29 (by decide) ?_
    refine lv_iadd hx hb dX5_refuse_30 ?_
    refine va_iast hx hb hK hP hD hS 1 0 rfl rfl (in_c rfl) dX5_refuse_31 (fun H locs hP hD hS => ?_)
    have hP : va_P G CL [(qx, .inr (4, [v1, v2, v3, v4, v5, .ref qr, v6, v7, v8])), (qr, .inl (cy 0, 5, .inl (upd fR 3 ((fR 3) + 1))))] H := hP
    have hD : va_D A [(qx, .inr (4, [v1, v2, v3, v4, v5, .ref qr, v6, v7, v8])), (qr, .inl (cy 0, 5, .inl (upd fR 3 ((fR 3) + 1))))] := hD
    refine lv_iload_n hx hb dX5_refuse_32 rfl (lv_at hl 2 rfl) ?_
    exact endW (u := []) hx hb hr hlocks rfl va_P0 va_D0 hS ⟨rfl, rfl⟩ dX5_refuse_33
  · exact absurd (by unfold In; decide) h_3
set_option maxHeartbeats 4000000 in
set_option maxRecDepth 100000 in
theorem c_X5_isPair (l : Launch) (G : va_G) (cy : Nat → ClassId) (qx : Nat) (qt : Nat) (v2 : Value) (v3 : Value) (v4 : Value) (v5 : Value) (v6 : Value) (v7 : Value) (v8 : Value) (v9 : Value) (qtw : Nat) (qtn : Nat) (qtg : Nat) (qta : Nat) (qtr : Nat) (qtm : Nat) (qtt : Nat) (qts : Nat) (iA : Int32) (iB : Int32)   : MR l yX5_isPair cX5_isPair 3 (some .boolean) 2 G cy [(qx, .inr (4, [.ref qt, v2, v3, v4, v5, v6, v7, v8, v9])), (qt, .inr (3, [.int 0, .int 0, .int 0, .int 0, .int 1, .ref qtw, .ref qtn, .ref qtg, .ref qta, .ref qtr, .ref qtm, .ref qtt, .ref qts]))] [.ref qx, .int iA, .int iB] (vp_Si (fun r => (r = 0))) := by
  refine enR RX5 (by decide) rfl (Nat.le_of_ble_eq_true rfl) (fun p e s m below meth c ls hx hb hml hown hts hr hlocks hP hN hl => ?_)
  have hK := hN.1
  have hl : lv_has ls 3 [(0, .ref qx), (1, .int iA), (2, .int iB)] := hl
  refine lv_aload_n hx hb dX5_isPair_0 rfl (lv_at hl 0 rfl) ?_
  refine va_get (D := G) (ci := 4) (v := .ref qt) (C := RX5) (T := TX5) (N := 9) hx hb hts iX_X5 hown hK hP 0 rfl rfl 0 (by decide) (hts _ m_t174) (fun _ h9 => h9) rfl dX5_isPair_1 ?_
  refine lv_iload_n hx hb dX5_isPair_4 rfl (lv_at hl 1 rfl) ?_
  refine kRi (rV (As := [.int iA]) (rest := []) (b := qt) ⟨hx, hb, hml, hown, hts⟩ (c_X4_isOne l G cy qt (.int 0) (.int 0) (.int 0) (.int 1) (.ref qtw) (.ref qtn) (.ref qtg) (.ref qta) (.ref qtr) (.ref qtm) (.ref qtt) (.ref qts) iA) L_X5_192 (preRV (q := (RX4, TX4, 13)) hN hP [1] rfl 1 3 rfl rfl) rfl ⟨Nat.le_of_ble_eq_true rfl, Nat.le_of_ble_eq_true rfl⟩ hl.1 (Nat.le_of_ble_eq_true rfl) dX5_isPair_5 ⟨Nat.le_of_ble_eq_true rfl, Nat.le_of_ble_eq_true rfl⟩) (fun r_1 h_2 => ?_)
  subst h_2
  refine lv_if_eq (tgt := 26) hx hb dX5_isPair_8 (by decide) (fun _ => ?_) (fun h9 => absurd (by decide) h9)
  refine lv_iconst (v := 0) hx hb dX5_isPair_26 (by decide) ?_
  exact endR hx hb hr hlocks rfl rfl dX5_isPair_27
set_option maxHeartbeats 4000000 in
set_option maxRecDepth 100000 in
theorem c_X5_readFit (l : Launch) (G : va_G) (cy : Nat → ClassId) (qx : Nat) (qt : Nat) (v2 : Value) (v3 : Value) (v4 : Value) (v5 : Value) (v6 : Value) (v7 : Value) (v8 : Value) (v9 : Value) (qtw : Nat) (qtn : Nat) (qtg : Nat) (qta : Nat) (qtr : Nat) (qtm : Nat) (qtt : Nat) (qts : Nat) (iA : Int32) (iB : Int32)   : MR l yX5_readFit cX5_readFit 3 (some .int) 3 G cy [(qx, .inr (4, [.ref qt, v2, v3, v4, v5, v6, v7, v8, v9])), (qt, .inr (3, [.int 0, .int 0, .int 0, .int 0, .int 1, .ref qtw, .ref qtn, .ref qtg, .ref qta, .ref qtr, .ref qtm, .ref qtt, .ref qts]))] [.ref qx, .int iA, .int iB] (vp_Si (fun r => (r = (-2)))) := by
  refine enR RX5 (by decide) rfl (Nat.le_of_ble_eq_true rfl) (fun p e s m below meth c ls hx hb hml hown hts hr hlocks hP hN hl => ?_)
  have hK := hN.1
  have hl : lv_has ls 3 [(0, .ref qx), (1, .int iA), (2, .int iB)] := hl
  refine lv_aload_n hx hb dX5_readFit_0 rfl (lv_at hl 0 rfl) ?_
  refine lv_iload_n hx hb dX5_readFit_1 rfl (lv_at hl 1 rfl) ?_
  refine lv_iload_n hx hb dX5_readFit_2 rfl (lv_at hl 2 rfl) ?_
  refine kRi (rV (As := [.int iA, .int iB]) (rest := []) (b := qx) ⟨hx, hb, hml, hown, hts⟩ (c_X5_isPair l G cy qx qt v2 v3 v4 v5 v6 v7 v8 v9 qtw qtn qtg qta qtr qtm qtt qts iA iB) L_X5_210 (preRV (q := (RX5, TX5, 9)) hN hP [0, 1] rfl 0 4 rfl rfl) rfl ⟨Nat.le_of_ble_eq_true rfl, Nat.le_of_ble_eq_true rfl⟩ hl.1 (Nat.le_of_ble_eq_true rfl) dX5_readFit_3 ⟨Nat.le_of_ble_eq_true rfl, Nat.le_of_ble_eq_true rfl⟩) (fun r_1 h_2 => ?_)
  subst h_2
  refine lv_if_ne (tgt := 12) hx hb dX5_readFit_6 (by decide) (fun h9 => absurd (by decide) h9) (fun _ => ?_)
  refine lv_bipush (v := (-2)) hx hb dX5_readFit_9 (by decide) ?_
  exact endR hx hb hr hlocks rfl rfl dX5_readFit_11
set_option maxHeartbeats 4000000 in
set_option maxRecDepth 100000 in
theorem c_X5_rowFit (l : Launch) (G : va_G) (cy : Nat → ClassId) (qx : Nat) (v1 : Value) (v2 : Value) (v3 : Value) (qs : Nat) (v5 : Value) (v6 : Value) (v7 : Value) (v8 : Value) (v9 : Value) (qsh : Nat) (qss : Nat) (qsa : Nat) (qse : Nat) (fH : Nat → Int32) (iA : Int32)  (hH : ∀ i, i < 8 → fH i = -1) : MR l yX5_rowFit cX5_rowFit 2 (some .int) 3 G cy [(qx, .inr (4, [v1, v2, v3, .ref qs, v5, v6, v7, v8, v9])), (qs, .inr (1, [.ref qsh, .ref qss, .ref qsa, .ref qse])), (qsh, .inl (cy 0, 8, .inl fH))] [.ref qx, .int iA] (vp_Si (fun r => (r = (-2) ∧ ¬ In iA.toInt64 0 7) ∨ (r = (-4) ∧ In iA.toInt64 0 7))) := by
  refine enR RX5 (by decide) rfl (Nat.le_of_ble_eq_true rfl) (fun p e s m below meth c ls hx hb hml hown hts hr hlocks hP hN hl => ?_)
  have hK := hN.1
  have hl : lv_has ls 2 [(0, .ref qx), (1, .int iA)] := hl
  refine lv_iload_n hx hb dX5_rowFit_0 rfl (lv_at hl 1 rfl) ?_
  refine kRi (rS (As := [.int iA]) (rest := []) ⟨hx, hb, hml, hown, hts⟩ (c_X5_isShelf l G cy iA) L_X5_44 (preRS hN hP [] rfl) rfl ⟨Nat.le_of_ble_eq_true rfl, Nat.le_of_ble_eq_true rfl⟩ hl.1 (Nat.le_of_ble_eq_true rfl) dX5_rowFit_1 ⟨Nat.le_of_ble_eq_true rfl, Nat.le_of_ble_eq_true rfl⟩) (fun r_1 h_2 => ?_)
  rcases h_2 with ⟨rfl, h_3⟩ | ⟨rfl, h_3⟩
  · refine lv_if_ne (tgt := 10) hx hb dX5_rowFit_4 (by decide) (fun _ => ?_) (fun h9 => absurd h9 (by decide))
    refine lv_aload_n hx hb dX5_rowFit_10 rfl (lv_at hl 0 rfl) ?_
    refine va_get (D := G) (ci := 4) (v := .ref qs) (C := RX5) (T := TX5) (N := 9) hx hb hts iX_X5 hown hK hP 0 rfl rfl 3 (by decide) (hts _ m_t177) (fun _ h9 => h9) rfl dX5_rowFit_11 ?_
    refine lv_iload_n hx hb dX5_rowFit_14 rfl (lv_at hl 1 rfl) ?_
    refine kRi (rV (As := [.int iA]) (rest := []) (b := qs) ⟨hx, hb, hml, hown, hts⟩ (c_X2_hasRule l G cy qs qsh qss qsa qse fH iA hH h_3) L_X5_361 (preRV (q := (RX2, TX2, 4)) hN hP [1, 2] rfl 1 1 rfl rfl) rfl ⟨Nat.le_of_ble_eq_true rfl, Nat.le_of_ble_eq_true rfl⟩ hl.1 (Nat.le_of_ble_eq_true rfl) dX5_rowFit_15 ⟨Nat.le_of_ble_eq_true rfl, Nat.le_of_ble_eq_true rfl⟩) (fun r_5 h_6 => ?_)
    subst h_6
    refine lv_if_eq (tgt := 24) hx hb dX5_rowFit_18 (by decide) (fun _ => ?_) (fun h9 => absurd (by decide) h9)
    refine lv_aload_n hx hb dX5_rowFit_24 rfl (lv_at hl 0 rfl) ?_
    refine va_get (D := G) (ci := 4) (v := .ref qs) (C := RX5) (T := TX5) (N := 9) hx hb hts iX_X5 hown hK hP 0 rfl rfl 3 (by decide) (hts _ m_t177) (fun _ h9 => h9) rfl dX5_rowFit_25 ?_
    refine lv_iload_n hx hb dX5_rowFit_28 rfl (lv_at hl 1 rfl) ?_
    refine kRi (rV (As := [.int iA]) (rest := []) (b := qs) ⟨hx, hb, hml, hown, hts⟩ (c_X2_hasRow l G cy qs qsh qss qsa qse fH iA hH h_3) L_X5_364 (preRV (q := (RX2, TX2, 4)) hN hP [1, 2] rfl 1 1 rfl rfl) rfl ⟨Nat.le_of_ble_eq_true rfl, Nat.le_of_ble_eq_true rfl⟩ hl.1 (Nat.le_of_ble_eq_true rfl) dX5_rowFit_29 ⟨Nat.le_of_ble_eq_true rfl, Nat.le_of_ble_eq_true rfl⟩) (fun r_8 h_9 => ?_)
    subst h_9
    refine lv_if_eq (tgt := 39) hx hb dX5_rowFit_32 (by decide) (fun _ => ?_) (fun h9 => absurd (by decide) h9)
    refine lv_bipush (v := (-4)) hx hb dX5_rowFit_39 (by decide) ?_
    exact endR hx hb hr hlocks rfl (Or.inr (⟨rfl, h_3⟩)) dX5_rowFit_41
  · refine lv_if_ne (tgt := 10) hx hb dX5_rowFit_4 (by decide) (fun h9 => absurd (by decide) h9) (fun _ => ?_)
    refine lv_bipush (v := (-2)) hx hb dX5_rowFit_7 (by decide) ?_
    exact endR hx hb hr hlocks rfl (Or.inl (⟨rfl, h_3⟩)) dX5_rowFit_9
set_option maxHeartbeats 4000000 in
set_option maxRecDepth 100000 in
theorem c_X5_ruleFit (l : Launch) (G : va_G) (cy : Nat → ClassId) (qx : Nat) (v1 : Value) (v2 : Value) (v3 : Value) (qs : Nat) (v5 : Value) (v6 : Value) (v7 : Value) (v8 : Value) (v9 : Value) (qsh : Nat) (qss : Nat) (qsa : Nat) (qse : Nat) (fH : Nat → Int32) (iA : Int32)  (hH : ∀ i, i < 8 → fH i = -1) : MR l yX5_ruleFit cX5_ruleFit 2 (some .int) 3 G cy [(qx, .inr (4, [v1, v2, v3, .ref qs, v5, v6, v7, v8, v9])), (qs, .inr (1, [.ref qsh, .ref qss, .ref qsa, .ref qse])), (qsh, .inl (cy 0, 8, .inl fH))] [.ref qx, .int iA] (vp_Si (fun r => (r = (-2) ∧ ¬ In iA.toInt64 0 7) ∨ (r = (-4) ∧ In iA.toInt64 0 7))) := by
  refine enR RX5 (by decide) rfl (Nat.le_of_ble_eq_true rfl) (fun p e s m below meth c ls hx hb hml hown hts hr hlocks hP hN hl => ?_)
  have hK := hN.1
  have hl : lv_has ls 2 [(0, .ref qx), (1, .int iA)] := hl
  refine lv_iload_n hx hb dX5_ruleFit_0 rfl (lv_at hl 1 rfl) ?_
  refine kRi (rS (As := [.int iA]) (rest := []) ⟨hx, hb, hml, hown, hts⟩ (c_X5_isShelf l G cy iA) L_X5_44 (preRS hN hP [] rfl) rfl ⟨Nat.le_of_ble_eq_true rfl, Nat.le_of_ble_eq_true rfl⟩ hl.1 (Nat.le_of_ble_eq_true rfl) dX5_ruleFit_1 ⟨Nat.le_of_ble_eq_true rfl, Nat.le_of_ble_eq_true rfl⟩) (fun r_1 h_2 => ?_)
  rcases h_2 with ⟨rfl, h_3⟩ | ⟨rfl, h_3⟩
  · refine lv_if_ne (tgt := 10) hx hb dX5_ruleFit_4 (by decide) (fun _ => ?_) (fun h9 => absurd h9 (by decide))
    refine lv_aload_n hx hb dX5_ruleFit_10 rfl (lv_at hl 0 rfl) ?_
    refine va_get (D := G) (ci := 4) (v := .ref qs) (C := RX5) (T := TX5) (N := 9) hx hb hts iX_X5 hown hK hP 0 rfl rfl 3 (by decide) (hts _ m_t177) (fun _ h9 => h9) rfl dX5_ruleFit_11 ?_
    refine lv_iload_n hx hb dX5_ruleFit_14 rfl (lv_at hl 1 rfl) ?_
    refine kRi (rV (As := [.int iA]) (rest := []) (b := qs) ⟨hx, hb, hml, hown, hts⟩ (c_X2_hasRow l G cy qs qsh qss qsa qse fH iA hH h_3) L_X5_364 (preRV (q := (RX2, TX2, 4)) hN hP [1, 2] rfl 1 1 rfl rfl) rfl ⟨Nat.le_of_ble_eq_true rfl, Nat.le_of_ble_eq_true rfl⟩ hl.1 (Nat.le_of_ble_eq_true rfl) dX5_ruleFit_15 ⟨Nat.le_of_ble_eq_true rfl, Nat.le_of_ble_eq_true rfl⟩) (fun r_5 h_6 => ?_)
    subst h_6
    refine lv_if_eq (tgt := 24) hx hb dX5_ruleFit_18 (by decide) (fun _ => ?_) (fun h9 => absurd (by decide) h9)
    refine lv_aload_n hx hb dX5_ruleFit_24 rfl (lv_at hl 0 rfl) ?_
    refine va_get (D := G) (ci := 4) (v := .ref qs) (C := RX5) (T := TX5) (N := 9) hx hb hts iX_X5 hown hK hP 0 rfl rfl 3 (by decide) (hts _ m_t177) (fun _ h9 => h9) rfl dX5_ruleFit_25 ?_
    refine lv_iload_n hx hb dX5_ruleFit_28 rfl (lv_at hl 1 rfl) ?_
    refine kRi (rV (As := [.int iA]) (rest := []) (b := qs) ⟨hx, hb, hml, hown, hts⟩ (c_X2_hasRule l G cy qs qsh qss qsa qse fH iA hH h_3) L_X5_361 (preRV (q := (RX2, TX2, 4)) hN hP [1, 2] rfl 1 1 rfl rfl) rfl ⟨Nat.le_of_ble_eq_true rfl, Nat.le_of_ble_eq_true rfl⟩ hl.1 (Nat.le_of_ble_eq_true rfl) dX5_ruleFit_29 ⟨Nat.le_of_ble_eq_true rfl, Nat.le_of_ble_eq_true rfl⟩) (fun r_8 h_9 => ?_)
    subst h_9
    refine lv_if_eq (tgt := 39) hx hb dX5_ruleFit_32 (by decide) (fun _ => ?_) (fun h9 => absurd (by decide) h9)
    refine lv_bipush (v := (-4)) hx hb dX5_ruleFit_39 (by decide) ?_
    exact endR hx hb hr hlocks rfl (Or.inr (⟨rfl, h_3⟩)) dX5_ruleFit_41
  · refine lv_if_ne (tgt := 10) hx hb dX5_ruleFit_4 (by decide) (fun h9 => absurd (by decide) h9) (fun _ => ?_)
    refine lv_bipush (v := (-2)) hx hb dX5_ruleFit_7 (by decide) ?_
    exact endR hx hb hr hlocks rfl (Or.inl (⟨rfl, h_3⟩)) dX5_ruleFit_9
set_option maxHeartbeats 4000000 in
set_option maxRecDepth 100000 in
theorem c_X5_copyFit (l : Launch) (G : va_G) (cy : Nat → ClassId) (qx : Nat) (v1 : Value) (v2 : Value) (v3 : Value) (qs : Nat) (v5 : Value) (v6 : Value) (v7 : Value) (v8 : Value) (v9 : Value) (qsh : Nat) (qss : Nat) (qsa : Nat) (qse : Nat) (fH : Nat → Int32) (iA : Int32) (iB : Int32)  (hH : ∀ i, i < 8 → fH i = -1) : MR l yX5_copyFit cX5_copyFit 3 (some .int) 3 G cy [(qx, .inr (4, [v1, v2, v3, .ref qs, v5, v6, v7, v8, v9])), (qs, .inr (1, [.ref qsh, .ref qss, .ref qsa, .ref qse])), (qsh, .inl (cy 0, 8, .inl fH))] [.ref qx, .int iA, .int iB] (vp_Si (fun r => (r = (-2) ∧ ¬ (In iA.toInt64 0 7 ∧ In iB.toInt64 0 7)) ∨ (r = (-4) ∧ In iA.toInt64 0 7 ∧ In iB.toInt64 0 7))) := by
  refine enR RX5 (by decide) rfl (Nat.le_of_ble_eq_true rfl) (fun p e s m below meth c ls hx hb hml hown hts hr hlocks hP hN hl => ?_)
  have hK := hN.1
  have hl : lv_has ls 3 [(0, .ref qx), (1, .int iA), (2, .int iB)] := hl
  refine lv_iload_n hx hb dX5_copyFit_0 rfl (lv_at hl 1 rfl) ?_
  refine kRi (rS (As := [.int iA]) (rest := []) ⟨hx, hb, hml, hown, hts⟩ (c_X5_isShelf l G cy iA) L_X5_44 (preRS hN hP [] rfl) rfl ⟨Nat.le_of_ble_eq_true rfl, Nat.le_of_ble_eq_true rfl⟩ hl.1 (Nat.le_of_ble_eq_true rfl) dX5_copyFit_1 ⟨Nat.le_of_ble_eq_true rfl, Nat.le_of_ble_eq_true rfl⟩) (fun r_1 h_2 => ?_)
  rcases h_2 with ⟨rfl, h_3⟩ | ⟨rfl, h_3⟩
  · refine lv_if_eq (tgt := 14) hx hb dX5_copyFit_4 (by decide) (fun h9 => absurd h9 (by decide)) (fun _ => ?_)
    refine lv_iload_n hx hb dX5_copyFit_7 rfl (lv_at hl 2 rfl) ?_
    refine kRi (rS (As := [.int iB]) (rest := []) ⟨hx, hb, hml, hown, hts⟩ (c_X5_isShelf l G cy iB) L_X5_44 (preRS hN hP [] rfl) rfl ⟨Nat.le_of_ble_eq_true rfl, Nat.le_of_ble_eq_true rfl⟩ hl.1 (Nat.le_of_ble_eq_true rfl) dX5_copyFit_8 ⟨Nat.le_of_ble_eq_true rfl, Nat.le_of_ble_eq_true rfl⟩) (fun r_5 h_6 => ?_)
    rcases h_6 with ⟨rfl, h_7⟩ | ⟨rfl, h_7⟩
    · refine lv_if_ne (tgt := 17) hx hb dX5_copyFit_11 (by decide) (fun _ => ?_) (fun h9 => absurd h9 (by decide))
      refine lv_aload_n hx hb dX5_copyFit_17 rfl (lv_at hl 0 rfl) ?_
      refine va_get (D := G) (ci := 4) (v := .ref qs) (C := RX5) (T := TX5) (N := 9) hx hb hts iX_X5 hown hK hP 0 rfl rfl 3 (by decide) (hts _ m_t177) (fun _ h9 => h9) rfl dX5_copyFit_18 ?_
      refine lv_iload_n hx hb dX5_copyFit_21 rfl (lv_at hl 1 rfl) ?_
      refine kRi (rV (As := [.int iA]) (rest := []) (b := qs) ⟨hx, hb, hml, hown, hts⟩ (c_X2_hasRule l G cy qs qsh qss qsa qse fH iA hH h_3) L_X5_361 (preRV (q := (RX2, TX2, 4)) hN hP [1, 2] rfl 1 1 rfl rfl) rfl ⟨Nat.le_of_ble_eq_true rfl, Nat.le_of_ble_eq_true rfl⟩ hl.1 (Nat.le_of_ble_eq_true rfl) dX5_copyFit_22 ⟨Nat.le_of_ble_eq_true rfl, Nat.le_of_ble_eq_true rfl⟩) (fun r_9 h_10 => ?_)
      subst h_10
      refine lv_if_ne (tgt := 39) hx hb dX5_copyFit_25 (by decide) (fun h9 => absurd (by decide) h9) (fun _ => ?_)
      refine lv_aload_n hx hb dX5_copyFit_28 rfl (lv_at hl 0 rfl) ?_
      refine va_get (D := G) (ci := 4) (v := .ref qs) (C := RX5) (T := TX5) (N := 9) hx hb hts iX_X5 hown hK hP 0 rfl rfl 3 (by decide) (hts _ m_t177) (fun _ h9 => h9) rfl dX5_copyFit_29 ?_
      refine lv_iload_n hx hb dX5_copyFit_32 rfl (lv_at hl 2 rfl) ?_
      refine kRi (rV (As := [.int iB]) (rest := []) (b := qs) ⟨hx, hb, hml, hown, hts⟩ (c_X2_hasRule l G cy qs qsh qss qsa qse fH iB hH h_7) L_X5_361 (preRV (q := (RX2, TX2, 4)) hN hP [1, 2] rfl 1 1 rfl rfl) rfl ⟨Nat.le_of_ble_eq_true rfl, Nat.le_of_ble_eq_true rfl⟩ hl.1 (Nat.le_of_ble_eq_true rfl) dX5_copyFit_33 ⟨Nat.le_of_ble_eq_true rfl, Nat.le_of_ble_eq_true rfl⟩) (fun r_12 h_13 => ?_)
      subst h_13
      refine lv_if_eq (tgt := 42) hx hb dX5_copyFit_36 (by decide) (fun _ => ?_) (fun h9 => absurd (by decide) h9)
      refine lv_aload_n hx hb dX5_copyFit_42 rfl (lv_at hl 0 rfl) ?_
      refine va_get (D := G) (ci := 4) (v := .ref qs) (C := RX5) (T := TX5) (N := 9) hx hb hts iX_X5 hown hK hP 0 rfl rfl 3 (by decide) (hts _ m_t177) (fun _ h9 => h9) rfl dX5_copyFit_43 ?_
      refine lv_iload_n hx hb dX5_copyFit_46 rfl (lv_at hl 1 rfl) ?_
      refine kRi (rV (As := [.int iA]) (rest := []) (b := qs) ⟨hx, hb, hml, hown, hts⟩ (c_X2_hasRow l G cy qs qsh qss qsa qse fH iA hH h_3) L_X5_364 (preRV (q := (RX2, TX2, 4)) hN hP [1, 2] rfl 1 1 rfl rfl) rfl ⟨Nat.le_of_ble_eq_true rfl, Nat.le_of_ble_eq_true rfl⟩ hl.1 (Nat.le_of_ble_eq_true rfl) dX5_copyFit_47 ⟨Nat.le_of_ble_eq_true rfl, Nat.le_of_ble_eq_true rfl⟩) (fun r_15 h_16 => ?_)
      subst h_16
      refine lv_if_eq (tgt := 64) hx hb dX5_copyFit_50 (by decide) (fun _ => ?_) (fun h9 => absurd (by decide) h9)
      refine lv_bipush (v := (-4)) hx hb dX5_copyFit_64 (by decide) ?_
      exact endR hx hb hr hlocks rfl (Or.inr (⟨rfl, by simp [h_3, h_7]⟩)) dX5_copyFit_66
    · refine lv_if_ne (tgt := 17) hx hb dX5_copyFit_11 (by decide) (fun h9 => absurd (by decide) h9) (fun _ => ?_)
      refine lv_bipush (v := (-2)) hx hb dX5_copyFit_14 (by decide) ?_
      exact endR hx hb hr hlocks rfl (Or.inl (⟨rfl, by simp [h_3, h_7]⟩)) dX5_copyFit_16
  · refine lv_if_eq (tgt := 14) hx hb dX5_copyFit_4 (by decide) (fun _ => ?_) (fun h9 => absurd (by decide) h9)
    refine lv_bipush (v := (-2)) hx hb dX5_copyFit_14 (by decide) ?_
    exact endR hx hb hr hlocks rfl (Or.inl (⟨rfl, by simp [h_3]⟩)) dX5_copyFit_16
set_option maxHeartbeats 4000000 in
set_option maxRecDepth 100000 in
theorem c_X5_toldFit (l : Launch) (G : va_G) (cy : Nat → ClassId) (qx : Nat) (v1 : Value) (v2 : Value) (v3 : Value) (qs : Nat) (v5 : Value) (v6 : Value) (v7 : Value) (v8 : Value) (v9 : Value) (qsh : Nat) (qss : Nat) (qsa : Nat) (qse : Nat) (fH : Nat → Int32) (iA : Int32) (iB : Int32)  (hH : ∀ i, i < 8 → fH i = -1) : MR l yX5_toldFit cX5_toldFit 4 (some .int) 4 G cy [(qx, .inr (4, [v1, v2, v3, .ref qs, v5, v6, v7, v8, v9])), (qs, .inr (1, [.ref qsh, .ref qss, .ref qsa, .ref qse])), (qsh, .inl (cy 0, 8, .inl fH))] [.ref qx, .int iA, .int iB] (vp_Si (fun r => (r = (-2) ∧ ¬ (In iA.toInt64 0 7 ∧ In iB.toInt64 0 20)) ∨ (r = (-4) ∧ In iA.toInt64 0 7 ∧ In iB.toInt64 0 20))) := by
  refine enR RX5 (by decide) rfl (Nat.le_of_ble_eq_true rfl) (fun p e s m below meth c ls hx hb hml hown hts hr hlocks hP hN hl => ?_)
  have hK := hN.1
  have hl : lv_has ls 4 [(0, .ref qx), (1, .int iA), (2, .int iB)] := hl
  refine lv_iload_n hx hb dX5_toldFit_0 rfl (lv_at hl 2 rfl) ?_
  refine lv_i2l (v := iB.toInt64) hx hb dX5_toldFit_1 rfl ?_
  refine lv_lconst (v := 0) hx hb dX5_toldFit_2 (by decide) ?_
  refine lv_ldc2 hx hb hown (hts _ m_t788) dX5_toldFit_3 ?_
  refine kRi (rS (As := [.long iB.toInt64, .long 0, .long 20]) (rest := []) ⟨hx, hb, hml, hown, hts⟩ (c_X5_within l G cy iB.toInt64 0 20) L_X5_50 (preRS hN hP [] rfl) rfl ⟨Nat.le_of_ble_eq_true rfl, Nat.le_of_ble_eq_true rfl⟩ hl.1 (Nat.le_of_ble_eq_true rfl) dX5_toldFit_6 ⟨Nat.le_of_ble_eq_true rfl, Nat.le_of_ble_eq_true rfl⟩) (fun r_1 h_2 => ?_)
  rcases h_2 with ⟨rfl, h_3⟩ | ⟨rfl, h_3⟩
  · refine lv_if_eq (tgt := 20) hx hb dX5_toldFit_9 (by decide) (fun h9 => absurd h9 (by decide)) (fun _ => ?_)
    refine lv_aload_n hx hb dX5_toldFit_12 rfl (lv_at hl 0 rfl) ?_
    refine lv_iload_n hx hb dX5_toldFit_13 rfl (lv_at hl 1 rfl) ?_
    refine kRi (rV (As := [.int iA]) (rest := []) (b := qx) ⟨hx, hb, hml, hown, hts⟩ (c_X5_rowFit l G cy qx v1 v2 v3 qs v5 v6 v7 v8 v9 qsh qss qsa qse fH iA hH) L_X5_64 (preRV (q := (RX5, TX5, 9)) hN hP [0, 1, 2] rfl 0 4 rfl rfl) rfl ⟨Nat.le_of_ble_eq_true rfl, Nat.le_of_ble_eq_true rfl⟩ hl.1 (Nat.le_of_ble_eq_true rfl) dX5_toldFit_14 ⟨Nat.le_of_ble_eq_true rfl, Nat.le_of_ble_eq_true rfl⟩) (fun r_5 h_6 => ?_)
    rcases h_6 with ⟨rfl, h_7⟩ | ⟨rfl, h_7⟩
    · refine lv_goto (tgt := 22) hx hb dX5_toldFit_17 (by decide) ?_
      refine lv_istore_n (lv' := [(3, .int (-2)), (0, .ref qx), (1, .int iA), (2, .int iB)]) hx hb dX5_toldFit_22 rfl hl (by decide) rfl (fun ls hl => ?_)
      refine lv_iload_n hx hb dX5_toldFit_23 rfl (lv_at hl 0 rfl) ?_
      refine lv_if_ne (tgt := 45) hx hb dX5_toldFit_24 (by decide) (fun _ => ?_) (fun h9 => absurd h9 (by decide))
      refine lv_iload_n hx hb dX5_toldFit_45 rfl (lv_at hl 0 rfl) ?_
      exact endR hx hb hr hlocks rfl (Or.inl (⟨rfl, by simp [h_3, h_7]⟩)) dX5_toldFit_46
    · refine lv_goto (tgt := 22) hx hb dX5_toldFit_17 (by decide) ?_
      refine lv_istore_n (lv' := [(3, .int (-4)), (0, .ref qx), (1, .int iA), (2, .int iB)]) hx hb dX5_toldFit_22 rfl hl (by decide) rfl (fun ls hl => ?_)
      refine lv_iload_n hx hb dX5_toldFit_23 rfl (lv_at hl 0 rfl) ?_
      refine lv_if_ne (tgt := 45) hx hb dX5_toldFit_24 (by decide) (fun _ => ?_) (fun h9 => absurd h9 (by decide))
      refine lv_iload_n hx hb dX5_toldFit_45 rfl (lv_at hl 0 rfl) ?_
      exact endR hx hb hr hlocks rfl (Or.inr (⟨rfl, by simp [h_3, h_7]⟩)) dX5_toldFit_46
  · refine lv_if_eq (tgt := 20) hx hb dX5_toldFit_9 (by decide) (fun _ => ?_) (fun h9 => absurd (by decide) h9)
    refine lv_bipush (v := (-2)) hx hb dX5_toldFit_20 (by decide) ?_
    refine lv_istore_n (lv' := [(3, .int (-2)), (0, .ref qx), (1, .int iA), (2, .int iB)]) hx hb dX5_toldFit_22 rfl hl (by decide) rfl (fun ls hl => ?_)
    refine lv_iload_n hx hb dX5_toldFit_23 rfl (lv_at hl 0 rfl) ?_
    refine lv_if_ne (tgt := 45) hx hb dX5_toldFit_24 (by decide) (fun _ => ?_) (fun h9 => absurd h9 (by decide))
    refine lv_iload_n hx hb dX5_toldFit_45 rfl (lv_at hl 0 rfl) ?_
    exact endR hx hb hr hlocks rfl (Or.inl (⟨rfl, by simp [h_3]⟩)) dX5_toldFit_46
end
section
theorem in_m1 {v : Int64} (h : In v 0 (-1)) : False := by
  obtain ⟨h1, h2⟩ := h
  rw [Int64.le_iff_toInt_le] at h1 h2
  have h3 : (0 : Int64).toInt = 0 := by decide
  have h4 : (-1 : Int64).toInt = -1 := by decide
  omega
theorem dX6_bits_0 : decode cX6_bits 0 = .ok (.iconst 0, 1) := by decide +kernel
theorem dX6_bits_1 : decode cX6_bits 1 = .ok (.istore_n 1, 1) := by decide +kernel
theorem dX6_bits_2 : decode cX6_bits 2 = .ok (.iconst 0, 1) := by decide +kernel
theorem dX6_bits_3 : decode cX6_bits 3 = .ok (.istore_n 2, 1) := by decide +kernel
theorem dX6_bits_4 : decode cX6_bits 4 = .ok (.iload_n 2, 1) := by decide +kernel
theorem dX6_bits_5 : decode cX6_bits 5 = .ok (.bipush 8, 2) := by decide +kernel
theorem dX6_bits_7 : decode cX6_bits 7 = .ok (.if_icmp .ge 17, 3) := by decide +kernel
theorem dX6_bits_10 : decode cX6_bits 10 = .ok (.iload_n 1, 1) := by decide +kernel
theorem dX6_bits_11 : decode cX6_bits 11 = .ok (.iload_n 0, 1) := by decide +kernel
theorem dX6_bits_12 : decode cX6_bits 12 = .ok (.iload_n 2, 1) := by decide +kernel
theorem dX6_bits_13 : decode cX6_bits 13 = .ok (.ishr, 1) := by decide +kernel
theorem dX6_bits_14 : decode cX6_bits 14 = .ok (.iconst 1, 1) := by decide +kernel
theorem dX6_bits_15 : decode cX6_bits 15 = .ok (.iand, 1) := by decide +kernel
theorem dX6_bits_16 : decode cX6_bits 16 = .ok (.iadd, 1) := by decide +kernel
theorem dX6_bits_17 : decode cX6_bits 17 = .ok (.istore_n 1, 1) := by decide +kernel
theorem dX6_bits_18 : decode cX6_bits 18 = .ok (.iinc 2 1, 3) := by decide +kernel
theorem dX6_bits_21 : decode cX6_bits 21 = .ok (.goto (-17), 3) := by decide +kernel
theorem dX6_bits_24 : decode cX6_bits 24 = .ok (.iload_n 1, 1) := by decide +kernel
theorem dX6_bits_25 : decode cX6_bits 25 = .ok (.ireturn, 1) := by decide +kernel
theorem dX6_end_0 : decode cX6_end 0 = .ok (.iconst 0, 1) := by decide +kernel
theorem dX6_end_1 : decode cX6_end 1 = .ok (.istore_n 1, 1) := by decide +kernel
theorem dX6_end_2 : decode cX6_end 2 = .ok (.iconst 0, 1) := by decide +kernel
theorem dX6_end_3 : decode cX6_end 3 = .ok (.istore_n 2, 1) := by decide +kernel
theorem dX6_end_4 : decode cX6_end 4 = .ok (.iload_n 2, 1) := by decide +kernel
theorem dX6_end_5 : decode cX6_end 5 = .ok (.aload_n 0, 1) := by decide +kernel
theorem dX6_end_6 : decode cX6_end 6 = .ok (.getfield 78, 3) := by decide +kernel
theorem dX6_end_9 : decode cX6_end 9 = .ok (.if_icmp .ge 136, 3) := by decide +kernel
theorem dX6_end_145 : decode cX6_end 145 = .ok (.aload_n 0, 1) := by decide +kernel
theorem dX6_end_146 : decode cX6_end 146 = .ok (.dup, 1) := by decide +kernel
theorem dX6_end_147 : decode cX6_end 147 = .ok (.getfield 285, 3) := by decide +kernel
theorem dX6_end_150 : decode cX6_end 150 = .ok (.iconst 1, 1) := by decide +kernel
theorem dX6_end_151 : decode cX6_end 151 = .ok (.iadd, 1) := by decide +kernel
theorem dX6_end_152 : decode cX6_end 152 = .ok (.putfield 285, 3) := by decide +kernel
theorem dX6_end_155 : decode cX6_end 155 = .ok (.iload_n 1, 1) := by decide +kernel
theorem dX6_end_156 : decode cX6_end 156 = .ok (.ireturn, 1) := by decide +kernel
theorem dX6_in_0 : decode cX6_in 0 = .ok (.lload_n 0, 1) := by decide +kernel
theorem dX6_in_1 : decode cX6_in 1 = .ok (.lload_n 2, 1) := by decide +kernel
theorem dX6_in_2 : decode cX6_in 2 = .ok (.lcmp, 1) := by decide +kernel
theorem dX6_in_3 : decode cX6_in 3 = .ok (.ifCond .lt 14, 3) := by decide +kernel
theorem dX6_in_6 : decode cX6_in 6 = .ok (.lload_n 0, 1) := by decide +kernel
theorem dX6_in_7 : decode cX6_in 7 = .ok (.lload 4, 2) := by decide +kernel
theorem dX6_in_9 : decode cX6_in 9 = .ok (.lcmp, 1) := by decide +kernel
theorem dX6_in_10 : decode cX6_in 10 = .ok (.ifCond .gt 7, 3) := by decide +kernel
theorem dX6_in_13 : decode cX6_in 13 = .ok (.iconst 1, 1) := by decide +kernel
theorem dX6_in_14 : decode cX6_in 14 = .ok (.goto 4, 3) := by decide +kernel
theorem dX6_in_17 : decode cX6_in 17 = .ok (.iconst 0, 1) := by decide +kernel
theorem dX6_in_18 : decode cX6_in 18 = .ok (.ireturn, 1) := by decide +kernel
theorem dX6_isBook_0 : decode cX6_isBook 0 = .ok (.lload_n 1, 1) := by decide +kernel
theorem dX6_isBook_1 : decode cX6_isBook 1 = .ok (.lconst 0, 1) := by decide +kernel
theorem dX6_isBook_2 : decode cX6_isBook 2 = .ok (.aload_n 0, 1) := by decide +kernel
theorem dX6_isBook_3 : decode cX6_isBook 3 = .ok (.getfield 71, 3) := by decide +kernel
theorem dX6_isBook_6 : decode cX6_isBook 6 = .ok (.iconst 1, 1) := by decide +kernel
theorem dX6_isBook_7 : decode cX6_isBook 7 = .ok (.isub, 1) := by decide +kernel
theorem dX6_isBook_8 : decode cX6_isBook 8 = .ok (.i2l, 1) := by decide +kernel
theorem dX6_isBook_9 : decode cX6_isBook 9 = .ok (.invokestatic 74, 3) := by decide +kernel
theorem dX6_isBook_12 : decode cX6_isBook 12 = .ok (.ireturn, 1) := by decide +kernel
theorem dX6_isOne_0 : decode cX6_isOne 0 = .ok (.lload_n 1, 1) := by decide +kernel
theorem dX6_isOne_1 : decode cX6_isOne 1 = .ok (.lconst 0, 1) := by decide +kernel
theorem dX6_isOne_2 : decode cX6_isOne 2 = .ok (.aload_n 0, 1) := by decide +kernel
theorem dX6_isOne_3 : decode cX6_isOne 3 = .ok (.getfield 78, 3) := by decide +kernel
theorem dX6_isOne_6 : decode cX6_isOne 6 = .ok (.iconst 1, 1) := by decide +kernel
theorem dX6_isOne_7 : decode cX6_isOne 7 = .ok (.isub, 1) := by decide +kernel
theorem dX6_isOne_8 : decode cX6_isOne 8 = .ok (.i2l, 1) := by decide +kernel
theorem dX6_isOne_9 : decode cX6_isOne 9 = .ok (.invokestatic 74, 3) := by decide +kernel
theorem dX6_isOne_12 : decode cX6_isOne 12 = .ok (.ireturn, 1) := by decide +kernel
theorem dX6_lostBy_0 : decode cX6_lostBy 0 = .ok (.iconst 0, 1) := by decide +kernel
theorem dX6_lostBy_1 : decode cX6_lostBy 1 = .ok (.istore_n 3, 1) := by decide +kernel
theorem dX6_lostBy_2 : decode cX6_lostBy 2 = .ok (.iconst 0, 1) := by decide +kernel
theorem dX6_lostBy_3 : decode cX6_lostBy 3 = .ok (.istore 4, 2) := by decide +kernel
theorem dX6_lostBy_5 : decode cX6_lostBy 5 = .ok (.iload 4, 2) := by decide +kernel
theorem dX6_lostBy_7 : decode cX6_lostBy 7 = .ok (.aload_n 0, 1) := by decide +kernel
theorem dX6_lostBy_8 : decode cX6_lostBy 8 = .ok (.getfield 71, 3) := by decide +kernel
theorem dX6_lostBy_11 : decode cX6_lostBy 11 = .ok (.if_icmp .ge 31, 3) := by decide +kernel
theorem dX6_lostBy_42 : decode cX6_lostBy 42 = .ok (.iload_n 3, 1) := by decide +kernel
theorem dX6_lostBy_43 : decode cX6_lostBy 43 = .ok (.ireturn, 1) := by decide +kernel
theorem dX6_newBook_0 : decode cX6_newBook 0 = .ok (.aload_n 0, 1) := by decide +kernel
theorem dX6_newBook_1 : decode cX6_newBook 1 = .ok (.getfield 42, 3) := by decide +kernel
theorem dX6_newBook_4 : decode cX6_newBook 4 = .ok (.aload_n 0, 1) := by decide +kernel
theorem dX6_newBook_5 : decode cX6_newBook 5 = .ok (.getfield 71, 3) := by decide +kernel
theorem dX6_newBook_8 : decode cX6_newBook 8 = .ok (.aaload, 1) := by decide +kernel
theorem dX6_newBook_9 : decode cX6_newBook 9 = .ok (.iconst 0, 1) := by decide +kernel
theorem dX6_newBook_10 : decode cX6_newBook 10 = .ok (.iload_n 1, 1) := by decide +kernel
theorem dX6_newBook_11 : decode cX6_newBook 11 = .ok (.iastore, 1) := by decide +kernel
theorem dX6_newBook_12 : decode cX6_newBook 12 = .ok (.aload_n 0, 1) := by decide +kernel
theorem dX6_newBook_13 : decode cX6_newBook 13 = .ok (.getfield 42, 3) := by decide +kernel
theorem dX6_newBook_16 : decode cX6_newBook 16 = .ok (.aload_n 0, 1) := by decide +kernel
theorem dX6_newBook_17 : decode cX6_newBook 17 = .ok (.getfield 71, 3) := by decide +kernel
theorem dX6_newBook_20 : decode cX6_newBook 20 = .ok (.aaload, 1) := by decide +kernel
theorem dX6_newBook_21 : decode cX6_newBook 21 = .ok (.iconst 1, 1) := by decide +kernel
theorem dX6_newBook_22 : decode cX6_newBook 22 = .ok (.iconst 0, 1) := by decide +kernel
theorem dX6_newBook_23 : decode cX6_newBook 23 = .ok (.iastore, 1) := by decide +kernel
theorem dX6_newBook_24 : decode cX6_newBook 24 = .ok (.aload_n 0, 1) := by decide +kernel
theorem dX6_newBook_25 : decode cX6_newBook 25 = .ok (.getfield 42, 3) := by decide +kernel
theorem dX6_newBook_28 : decode cX6_newBook 28 = .ok (.aload_n 0, 1) := by decide +kernel
theorem dX6_newBook_29 : decode cX6_newBook 29 = .ok (.getfield 71, 3) := by decide +kernel
theorem dX6_newBook_32 : decode cX6_newBook 32 = .ok (.aaload, 1) := by decide +kernel
theorem dX6_newBook_33 : decode cX6_newBook 33 = .ok (.iconst 2, 1) := by decide +kernel
theorem dX6_newBook_34 : decode cX6_newBook 34 = .ok (.sipush 1000, 3) := by decide +kernel
theorem dX6_newBook_37 : decode cX6_newBook 37 = .ok (.iastore, 1) := by decide +kernel
theorem dX6_newBook_38 : decode cX6_newBook 38 = .ok (.aload_n 0, 1) := by decide +kernel
theorem dX6_newBook_39 : decode cX6_newBook 39 = .ok (.getfield 42, 3) := by decide +kernel
theorem dX6_newBook_42 : decode cX6_newBook 42 = .ok (.aload_n 0, 1) := by decide +kernel
theorem dX6_newBook_43 : decode cX6_newBook 43 = .ok (.getfield 71, 3) := by decide +kernel
theorem dX6_newBook_46 : decode cX6_newBook 46 = .ok (.aaload, 1) := by decide +kernel
theorem dX6_newBook_47 : decode cX6_newBook 47 = .ok (.iconst 3, 1) := by decide +kernel
theorem dX6_newBook_48 : decode cX6_newBook 48 = .ok (.iconst 0, 1) := by decide +kernel
theorem dX6_newBook_49 : decode cX6_newBook 49 = .ok (.iastore, 1) := by decide +kernel
theorem dX6_newBook_50 : decode cX6_newBook 50 = .ok (.iconst 0, 1) := by decide +kernel
theorem dX6_newBook_51 : decode cX6_newBook 51 = .ok (.istore_n 2, 1) := by decide +kernel
theorem dX6_newBook_52 : decode cX6_newBook 52 = .ok (.iload_n 2, 1) := by decide +kernel
theorem dX6_newBook_53 : decode cX6_newBook 53 = .ok (.bipush 8, 2) := by decide +kernel
theorem dX6_newBook_55 : decode cX6_newBook 55 = .ok (.if_icmp .ge 21, 3) := by decide +kernel
theorem dX6_newBook_58 : decode cX6_newBook 58 = .ok (.aload_n 0, 1) := by decide +kernel
theorem dX6_newBook_59 : decode cX6_newBook 59 = .ok (.getfield 48, 3) := by decide +kernel
theorem dX6_newBook_62 : decode cX6_newBook 62 = .ok (.iload_n 2, 1) := by decide +kernel
theorem dX6_newBook_63 : decode cX6_newBook 63 = .ok (.aaload, 1) := by decide +kernel
theorem dX6_newBook_64 : decode cX6_newBook 64 = .ok (.aload_n 0, 1) := by decide +kernel
theorem dX6_newBook_65 : decode cX6_newBook 65 = .ok (.getfield 71, 3) := by decide +kernel
theorem dX6_newBook_68 : decode cX6_newBook 68 = .ok (.iconst 0, 1) := by decide +kernel
theorem dX6_newBook_69 : decode cX6_newBook 69 = .ok (.iastore, 1) := by decide +kernel
theorem dX6_newBook_70 : decode cX6_newBook 70 = .ok (.iinc 2 1, 3) := by decide +kernel
theorem dX6_newBook_73 : decode cX6_newBook 73 = .ok (.goto (-21), 3) := by decide +kernel
theorem dX6_newBook_76 : decode cX6_newBook 76 = .ok (.return_, 1) := by decide +kernel
theorem dX6_newOne_0 : decode cX6_newOne 0 = .ok (.aload_n 0, 1) := by decide +kernel
theorem dX6_newOne_1 : decode cX6_newOne 1 = .ok (.getfield 45, 3) := by decide +kernel
theorem dX6_newOne_4 : decode cX6_newOne 4 = .ok (.aload_n 0, 1) := by decide +kernel
theorem dX6_newOne_5 : decode cX6_newOne 5 = .ok (.getfield 78, 3) := by decide +kernel
theorem dX6_newOne_8 : decode cX6_newOne 8 = .ok (.aaload, 1) := by decide +kernel
theorem dX6_newOne_9 : decode cX6_newOne 9 = .ok (.iconst 1, 1) := by decide +kernel
theorem dX6_newOne_10 : decode cX6_newOne 10 = .ok (.iconst 5, 1) := by decide +kernel
theorem dX6_newOne_11 : decode cX6_newOne 11 = .ok (.iastore, 1) := by decide +kernel
theorem dX6_newOne_12 : decode cX6_newOne 12 = .ok (.aload_n 0, 1) := by decide +kernel
theorem dX6_newOne_13 : decode cX6_newOne 13 = .ok (.getfield 45, 3) := by decide +kernel
theorem dX6_newOne_16 : decode cX6_newOne 16 = .ok (.aload_n 0, 1) := by decide +kernel
theorem dX6_newOne_17 : decode cX6_newOne 17 = .ok (.getfield 78, 3) := by decide +kernel
theorem dX6_newOne_20 : decode cX6_newOne 20 = .ok (.aaload, 1) := by decide +kernel
theorem dX6_newOne_21 : decode cX6_newOne 21 = .ok (.iconst 2, 1) := by decide +kernel
theorem dX6_newOne_22 : decode cX6_newOne 22 = .ok (.iconst 5, 1) := by decide +kernel
theorem dX6_newOne_23 : decode cX6_newOne 23 = .ok (.iastore, 1) := by decide +kernel
theorem dX6_newOne_24 : decode cX6_newOne 24 = .ok (.aload_n 0, 1) := by decide +kernel
theorem dX6_newOne_25 : decode cX6_newOne 25 = .ok (.getfield 45, 3) := by decide +kernel
theorem dX6_newOne_28 : decode cX6_newOne 28 = .ok (.aload_n 0, 1) := by decide +kernel
theorem dX6_newOne_29 : decode cX6_newOne 29 = .ok (.getfield 78, 3) := by decide +kernel
theorem dX6_newOne_32 : decode cX6_newOne 32 = .ok (.aaload, 1) := by decide +kernel
theorem dX6_newOne_33 : decode cX6_newOne 33 = .ok (.iconst 3, 1) := by decide +kernel
theorem dX6_newOne_34 : decode cX6_newOne 34 = .ok (.iconst 5, 1) := by decide +kernel
theorem dX6_newOne_35 : decode cX6_newOne 35 = .ok (.iastore, 1) := by decide +kernel
theorem dX6_newOne_36 : decode cX6_newOne 36 = .ok (.aload_n 0, 1) := by decide +kernel
theorem dX6_newOne_37 : decode cX6_newOne 37 = .ok (.getfield 45, 3) := by decide +kernel
theorem dX6_newOne_40 : decode cX6_newOne 40 = .ok (.aload_n 0, 1) := by decide +kernel
theorem dX6_newOne_41 : decode cX6_newOne 41 = .ok (.getfield 78, 3) := by decide +kernel
theorem dX6_newOne_44 : decode cX6_newOne 44 = .ok (.aaload, 1) := by decide +kernel
theorem dX6_newOne_45 : decode cX6_newOne 45 = .ok (.iconst 4, 1) := by decide +kernel
theorem dX6_newOne_46 : decode cX6_newOne 46 = .ok (.iconst 0, 1) := by decide +kernel
theorem dX6_newOne_47 : decode cX6_newOne 47 = .ok (.iastore, 1) := by decide +kernel
theorem dX6_newOne_48 : decode cX6_newOne 48 = .ok (.iconst 0, 1) := by decide +kernel
theorem dX6_newOne_49 : decode cX6_newOne 49 = .ok (.istore_n 1, 1) := by decide +kernel
theorem dX6_newOne_50 : decode cX6_newOne 50 = .ok (.iload_n 1, 1) := by decide +kernel
theorem dX6_newOne_51 : decode cX6_newOne 51 = .ok (.bipush 8, 2) := by decide +kernel
theorem dX6_newOne_53 : decode cX6_newOne 53 = .ok (.if_icmp .ge 21, 3) := by decide +kernel
theorem dX6_newOne_56 : decode cX6_newOne 56 = .ok (.aload_n 0, 1) := by decide +kernel
theorem dX6_newOne_57 : decode cX6_newOne 57 = .ok (.getfield 48, 3) := by decide +kernel
theorem dX6_newOne_60 : decode cX6_newOne 60 = .ok (.aload_n 0, 1) := by decide +kernel
theorem dX6_newOne_61 : decode cX6_newOne 61 = .ok (.getfield 78, 3) := by decide +kernel
theorem dX6_newOne_64 : decode cX6_newOne 64 = .ok (.aaload, 1) := by decide +kernel
theorem dX6_newOne_65 : decode cX6_newOne 65 = .ok (.iload_n 1, 1) := by decide +kernel
theorem dX6_newOne_66 : decode cX6_newOne 66 = .ok (.iconst 0, 1) := by decide +kernel
theorem dX6_newOne_67 : decode cX6_newOne 67 = .ok (.iastore, 1) := by decide +kernel
theorem dX6_newOne_68 : decode cX6_newOne 68 = .ok (.iinc 1 1, 3) := by decide +kernel
theorem dX6_newOne_71 : decode cX6_newOne 71 = .ok (.goto (-21), 3) := by decide +kernel
theorem dX6_newOne_74 : decode cX6_newOne 74 = .ok (.return_, 1) := by decide +kernel
theorem dX6_noReading_0 : decode cX6_noReading 0 = .ok (.aload_n 0, 1) := by decide +kernel
theorem dX6_noReading_1 : decode cX6_noReading 1 = .ok (.iload_n 1, 1) := by decide +kernel
theorem dX6_noReading_2 : decode cX6_noReading 2 = .ok (.i2l, 1) := by decide +kernel
theorem dX6_noReading_3 : decode cX6_noReading 3 = .ok (.invokevirtual 236, 3) := by decide +kernel
theorem dX6_noReading_6 : decode cX6_noReading 6 = .ok (.ifCond .eq 12, 3) := by decide +kernel
theorem dX6_noReading_18 : decode cX6_noReading 18 = .ok (.aload_n 0, 1) := by decide +kernel
theorem dX6_noReading_19 : decode cX6_noReading 19 = .ok (.bipush (-2), 2) := by decide +kernel
theorem dX6_noReading_21 : decode cX6_noReading 21 = .ok (.invokevirtual 91, 3) := by decide +kernel
theorem dX6_noReading_24 : decode cX6_noReading 24 = .ok (.ireturn, 1) := by decide +kernel
theorem dX6_noRow_0 : decode cX6_noRow 0 = .ok (.iload_n 1, 1) := by decide +kernel
theorem dX6_noRow_1 : decode cX6_noRow 1 = .ok (.i2l, 1) := by decide +kernel
theorem dX6_noRow_2 : decode cX6_noRow 2 = .ok (.lconst 0, 1) := by decide +kernel
theorem dX6_noRow_3 : decode cX6_noRow 3 = .ok (.ldc2_w 85, 3) := by decide +kernel
theorem dX6_noRow_6 : decode cX6_noRow 6 = .ok (.invokestatic 74, 3) := by decide +kernel
theorem dX6_noRow_9 : decode cX6_noRow 9 = .ok (.ifCond .ne 10, 3) := by decide +kernel
theorem dX6_noRow_12 : decode cX6_noRow 12 = .ok (.aload_n 0, 1) := by decide +kernel
theorem dX6_noRow_13 : decode cX6_noRow 13 = .ok (.bipush (-2), 2) := by decide +kernel
theorem dX6_noRow_15 : decode cX6_noRow 15 = .ok (.invokevirtual 91, 3) := by decide +kernel
theorem dX6_noRow_18 : decode cX6_noRow 18 = .ok (.ireturn, 1) := by decide +kernel
theorem dX6_noRow_19 : decode cX6_noRow 19 = .ok (.aload_n 0, 1) := by decide +kernel
theorem dX6_noRow_20 : decode cX6_noRow 20 = .ok (.getfield 7, 3) := by decide +kernel
theorem dX6_noRow_23 : decode cX6_noRow 23 = .ok (.iload_n 1, 1) := by decide +kernel
theorem dX6_noRow_24 : decode cX6_noRow 24 = .ok (.iaload, 1) := by decide +kernel
theorem dX6_noRow_25 : decode cX6_noRow 25 = .ok (.iconst 2, 1) := by decide +kernel
theorem dX6_noRow_26 : decode cX6_noRow 26 = .ok (.if_icmp .ne 10, 3) := by decide +kernel
theorem dX6_noRow_36 : decode cX6_noRow 36 = .ok (.aload_n 0, 1) := by decide +kernel
theorem dX6_noRow_37 : decode cX6_noRow 37 = .ok (.getfield 7, 3) := by decide +kernel
theorem dX6_noRow_40 : decode cX6_noRow 40 = .ok (.iload_n 1, 1) := by decide +kernel
theorem dX6_noRow_41 : decode cX6_noRow 41 = .ok (.iaload, 1) := by decide +kernel
theorem dX6_noRow_42 : decode cX6_noRow 42 = .ok (.ifCond .ne 12, 3) := by decide +kernel
theorem dX6_noRow_45 : decode cX6_noRow 45 = .ok (.aload_n 0, 1) := by decide +kernel
theorem dX6_noRow_46 : decode cX6_noRow 46 = .ok (.bipush (-4), 2) := by decide +kernel
theorem dX6_noRow_48 : decode cX6_noRow 48 = .ok (.invokevirtual 91, 3) := by decide +kernel
theorem dX6_noRow_51 : decode cX6_noRow 51 = .ok (.goto 4, 3) := by decide +kernel
theorem dX6_noRow_55 : decode cX6_noRow 55 = .ok (.ireturn, 1) := by decide +kernel
theorem dX6_noRule_0 : decode cX6_noRule 0 = .ok (.iload_n 1, 1) := by decide +kernel
theorem dX6_noRule_1 : decode cX6_noRule 1 = .ok (.i2l, 1) := by decide +kernel
theorem dX6_noRule_2 : decode cX6_noRule 2 = .ok (.lconst 0, 1) := by decide +kernel
theorem dX6_noRule_3 : decode cX6_noRule 3 = .ok (.ldc2_w 85, 3) := by decide +kernel
theorem dX6_noRule_6 : decode cX6_noRule 6 = .ok (.invokestatic 74, 3) := by decide +kernel
theorem dX6_noRule_9 : decode cX6_noRule 9 = .ok (.ifCond .ne 10, 3) := by decide +kernel
theorem dX6_noRule_12 : decode cX6_noRule 12 = .ok (.aload_n 0, 1) := by decide +kernel
theorem dX6_noRule_13 : decode cX6_noRule 13 = .ok (.bipush (-2), 2) := by decide +kernel
theorem dX6_noRule_15 : decode cX6_noRule 15 = .ok (.invokevirtual 91, 3) := by decide +kernel
theorem dX6_noRule_18 : decode cX6_noRule 18 = .ok (.ireturn, 1) := by decide +kernel
theorem dX6_noRule_19 : decode cX6_noRule 19 = .ok (.aload_n 0, 1) := by decide +kernel
theorem dX6_noRule_20 : decode cX6_noRule 20 = .ok (.getfield 7, 3) := by decide +kernel
theorem dX6_noRule_23 : decode cX6_noRule 23 = .ok (.iload_n 1, 1) := by decide +kernel
theorem dX6_noRule_24 : decode cX6_noRule 24 = .ok (.iaload, 1) := by decide +kernel
theorem dX6_noRule_25 : decode cX6_noRule 25 = .ok (.iconst 1, 1) := by decide +kernel
theorem dX6_noRule_26 : decode cX6_noRule 26 = .ok (.if_icmp .ne 10, 3) := by decide +kernel
theorem dX6_noRule_36 : decode cX6_noRule 36 = .ok (.aload_n 0, 1) := by decide +kernel
theorem dX6_noRule_37 : decode cX6_noRule 37 = .ok (.getfield 7, 3) := by decide +kernel
theorem dX6_noRule_40 : decode cX6_noRule 40 = .ok (.iload_n 1, 1) := by decide +kernel
theorem dX6_noRule_41 : decode cX6_noRule 41 = .ok (.iaload, 1) := by decide +kernel
theorem dX6_noRule_42 : decode cX6_noRule 42 = .ok (.ifCond .ne 12, 3) := by decide +kernel
theorem dX6_noRule_45 : decode cX6_noRule 45 = .ok (.aload_n 0, 1) := by decide +kernel
theorem dX6_noRule_46 : decode cX6_noRule 46 = .ok (.bipush (-4), 2) := by decide +kernel
theorem dX6_noRule_48 : decode cX6_noRule 48 = .ok (.invokevirtual 91, 3) := by decide +kernel
theorem dX6_noRule_51 : decode cX6_noRule 51 = .ok (.goto 4, 3) := by decide +kernel
theorem dX6_noRule_55 : decode cX6_noRule 55 = .ok (.ireturn, 1) := by decide +kernel
theorem dX6_noTold_0 : decode cX6_noTold 0 = .ok (.iload_n 1, 1) := by decide +kernel
theorem dX6_noTold_1 : decode cX6_noTold 1 = .ok (.i2l, 1) := by decide +kernel
theorem dX6_noTold_2 : decode cX6_noTold 2 = .ok (.lconst 0, 1) := by decide +kernel
theorem dX6_noTold_3 : decode cX6_noTold 3 = .ok (.ldc2_w 85, 3) := by decide +kernel
theorem dX6_noTold_6 : decode cX6_noTold 6 = .ok (.invokestatic 74, 3) := by decide +kernel
theorem dX6_noTold_9 : decode cX6_noTold 9 = .ok (.ifCond .eq 15, 3) := by decide +kernel
theorem dX6_noTold_12 : decode cX6_noTold 12 = .ok (.iload_n 2, 1) := by decide +kernel
theorem dX6_noTold_13 : decode cX6_noTold 13 = .ok (.i2l, 1) := by decide +kernel
theorem dX6_noTold_14 : decode cX6_noTold 14 = .ok (.lconst 0, 1) := by decide +kernel
theorem dX6_noTold_15 : decode cX6_noTold 15 = .ok (.ldc2_w 341, 3) := by decide +kernel
theorem dX6_noTold_18 : decode cX6_noTold 18 = .ok (.invokestatic 74, 3) := by decide +kernel
theorem dX6_noTold_21 : decode cX6_noTold 21 = .ok (.ifCond .ne 10, 3) := by decide +kernel
theorem dX6_noTold_24 : decode cX6_noTold 24 = .ok (.aload_n 0, 1) := by decide +kernel
theorem dX6_noTold_25 : decode cX6_noTold 25 = .ok (.bipush (-2), 2) := by decide +kernel
theorem dX6_noTold_27 : decode cX6_noTold 27 = .ok (.invokevirtual 91, 3) := by decide +kernel
theorem dX6_noTold_30 : decode cX6_noTold 30 = .ok (.ireturn, 1) := by decide +kernel
theorem dX6_noTold_31 : decode cX6_noTold 31 = .ok (.aload_n 0, 1) := by decide +kernel
theorem dX6_noTold_32 : decode cX6_noTold 32 = .ok (.iload_n 1, 1) := by decide +kernel
theorem dX6_noTold_33 : decode cX6_noTold 33 = .ok (.invokevirtual 95, 3) := by decide +kernel
theorem dX6_noTold_36 : decode cX6_noTold 36 = .ok (.istore_n 3, 1) := by decide +kernel
theorem dX6_noTold_37 : decode cX6_noTold 37 = .ok (.iload_n 3, 1) := by decide +kernel
theorem dX6_noTold_38 : decode cX6_noTold 38 = .ok (.ifCond .eq 5, 3) := by decide +kernel
theorem dX6_noTold_41 : decode cX6_noTold 41 = .ok (.iload_n 3, 1) := by decide +kernel
theorem dX6_noTold_42 : decode cX6_noTold 42 = .ok (.ireturn, 1) := by decide +kernel
theorem dX6_refuse_0 : decode cX6_refuse 0 = .ok (.aload_n 0, 1) := by decide +kernel
theorem dX6_refuse_1 : decode cX6_refuse 1 = .ok (.getfield 37, 3) := by decide +kernel
theorem dX6_refuse_4 : decode cX6_refuse 4 = .ok (.iload_n 1, 1) := by decide +kernel
theorem dX6_refuse_5 : decode cX6_refuse 5 = .ok (.ineg, 1) := by decide +kernel
theorem dX6_refuse_6 : decode cX6_refuse 6 = .ok (.dup2, 1) := by decide +kernel
theorem dX6_refuse_7 : decode cX6_refuse 7 = .ok (.iaload, 1) := by decide +kernel
theorem dX6_refuse_8 : decode cX6_refuse 8 = .ok (.iconst 1, 1) := by decide +kernel
theorem dX6_refuse_9 : decode cX6_refuse 9 = .ok (.iadd, 1) := by decide +kernel
theorem dX6_refuse_10 : decode cX6_refuse 10 = .ok (.iastore, 1) := by decide +kernel
theorem dX6_refuse_11 : decode cX6_refuse 11 = .ok (.iload_n 1, 1) := by decide +kernel
theorem dX6_refuse_12 : decode cX6_refuse 12 = .ok (.ireturn, 1) := by decide +kernel
theorem dX6_thereMany_0 : decode cX6_thereMany 0 = .ok (.iconst 0, 1) := by decide +kernel
theorem dX6_thereMany_1 : decode cX6_thereMany 1 = .ok (.istore_n 1, 1) := by decide +kernel
theorem dX6_thereMany_2 : decode cX6_thereMany 2 = .ok (.iconst 0, 1) := by decide +kernel
theorem dX6_thereMany_3 : decode cX6_thereMany 3 = .ok (.istore_n 2, 1) := by decide +kernel
theorem dX6_thereMany_4 : decode cX6_thereMany 4 = .ok (.iload_n 2, 1) := by decide +kernel
theorem dX6_thereMany_5 : decode cX6_thereMany 5 = .ok (.aload_n 0, 1) := by decide +kernel
theorem dX6_thereMany_6 : decode cX6_thereMany 6 = .ok (.getfield 78, 3) := by decide +kernel
theorem dX6_thereMany_9 : decode cX6_thereMany 9 = .ok (.if_icmp .ge 25, 3) := by decide +kernel
theorem dX6_thereMany_34 : decode cX6_thereMany 34 = .ok (.iload_n 1, 1) := by decide +kernel
theorem dX6_thereMany_35 : decode cX6_thereMany 35 = .ok (.ireturn, 1) := by decide +kernel
theorem dX6_valueNow_0 : decode cX6_valueNow 0 = .ok (.aload_n 0, 1) := by decide +kernel
theorem dX6_valueNow_1 : decode cX6_valueNow 1 = .ok (.iconst 1, 1) := by decide +kernel
theorem dX6_valueNow_2 : decode cX6_valueNow 2 = .ok (.aload_n 0, 1) := by decide +kernel
theorem dX6_valueNow_3 : decode cX6_valueNow 3 = .ok (.getfield 78, 3) := by decide +kernel
theorem dX6_valueNow_6 : decode cX6_valueNow 6 = .ok (.ishl, 1) := by decide +kernel
theorem dX6_valueNow_7 : decode cX6_valueNow 7 = .ok (.iconst 1, 1) := by decide +kernel
theorem dX6_valueNow_8 : decode cX6_valueNow 8 = .ok (.isub, 1) := by decide +kernel
theorem dX6_valueNow_9 : decode cX6_valueNow 9 = .ok (.invokevirtual 266, 3) := by decide +kernel
theorem dX6_valueNow_12 : decode cX6_valueNow 12 = .ok (.ireturn, 1) := by decide +kernel
theorem dX6_valueOf_0 : decode cX6_valueOf 0 = .ok (.iconst 0, 1) := by decide +kernel
theorem dX6_valueOf_1 : decode cX6_valueOf 1 = .ok (.istore_n 2, 1) := by decide +kernel
theorem dX6_valueOf_2 : decode cX6_valueOf 2 = .ok (.iconst 0, 1) := by decide +kernel
theorem dX6_valueOf_3 : decode cX6_valueOf 3 = .ok (.istore_n 3, 1) := by decide +kernel
theorem dX6_valueOf_4 : decode cX6_valueOf 4 = .ok (.iload_n 3, 1) := by decide +kernel
theorem dX6_valueOf_5 : decode cX6_valueOf 5 = .ok (.aload_n 0, 1) := by decide +kernel
theorem dX6_valueOf_6 : decode cX6_valueOf 6 = .ok (.getfield 71, 3) := by decide +kernel
theorem dX6_valueOf_9 : decode cX6_valueOf 9 = .ok (.if_icmp .ge 27, 3) := by decide +kernel
theorem dX6_valueOf_36 : decode cX6_valueOf 36 = .ok (.iload_n 2, 1) := by decide +kernel
theorem dX6_valueOf_37 : decode cX6_valueOf 37 = .ok (.ireturn, 1) := by decide +kernel
theorem dX6_whiteMany_0 : decode cX6_whiteMany 0 = .ok (.iconst 0, 1) := by decide +kernel
theorem dX6_whiteMany_1 : decode cX6_whiteMany 1 = .ok (.istore_n 1, 1) := by decide +kernel
theorem dX6_whiteMany_2 : decode cX6_whiteMany 2 = .ok (.iconst 0, 1) := by decide +kernel
theorem dX6_whiteMany_3 : decode cX6_whiteMany 3 = .ok (.istore_n 2, 1) := by decide +kernel
theorem dX6_whiteMany_4 : decode cX6_whiteMany 4 = .ok (.iload_n 2, 1) := by decide +kernel
theorem dX6_whiteMany_5 : decode cX6_whiteMany 5 = .ok (.aload_n 0, 1) := by decide +kernel
theorem dX6_whiteMany_6 : decode cX6_whiteMany 6 = .ok (.getfield 71, 3) := by decide +kernel
theorem dX6_whiteMany_9 : decode cX6_whiteMany 9 = .ok (.if_icmp .ge 20, 3) := by decide +kernel
theorem dX6_whiteMany_29 : decode cX6_whiteMany 29 = .ok (.iload_n 1, 1) := by decide +kernel
theorem dX6_whiteMany_30 : decode cX6_whiteMany 30 = .ok (.ireturn, 1) := by decide +kernel
set_option maxHeartbeats 4000000 in
set_option maxRecDepth 100000 in
theorem c_X6_in (l : Launch) (G : va_G) (cy : Nat → ClassId) (J1 : Int64) (J2 : Int64) (J3 : Int64)   : MR l yX6_in cX6_in 6 (some .boolean) 1 G cy [] [.long J1, .long J2, .long J3] (vp_Si (fun r => (r = 1 ∧ In J1 J2 J3) ∨ (r = 0 ∧ ¬ In J1 J2 J3))) := by
  refine enR RX6 (by decide) rfl (Nat.le_of_ble_eq_true rfl) (fun p e s m below meth c ls hx hb hml hown hts hr hlocks hP hN hl => ?_)
  have hK := hN.1
  have hl : lv_has ls 6 [(0, .long J1), (2, .long J2), (4, .long J3)] := hl
  refine lv_lload_n hx hb dX6_in_0 rfl (lv_at hl 0 rfl) ?_
  refine lv_lload_n hx hb dX6_in_1 rfl (lv_at hl 1 rfl) ?_
  refine W.lcmp hx hb dX6_in_2 ?_
  refine lv_if_lt (tgt := 17) hx hb dX6_in_3 (by decide) (fun c_1 => ?_) (fun c_1 => ?_)
  · refine lv_iconst (v := 0) hx hb dX6_in_17 (by decide) ?_
    exact endR hx hb hr hlocks rfl (Or.inr (⟨rfl, in_no1 c_1⟩)) dX6_in_18
  · refine lv_lload_n hx hb dX6_in_6 rfl (lv_at hl 0 rfl) ?_
    refine lv_lload hx hb dX6_in_7 (lv_at hl 2 rfl) ?_
    refine W.lcmp hx hb dX6_in_9 ?_
    refine lv_if_gt (tgt := 17) hx hb dX6_in_10 (by decide) (fun c_2 => ?_) (fun c_2 => ?_)
    · refine lv_iconst (v := 0) hx hb dX6_in_17 (by decide) ?_
      exact endR hx hb hr hlocks rfl (Or.inr (⟨rfl, in_no2 c_2⟩)) dX6_in_18
    · refine lv_iconst (v := 1) hx hb dX6_in_13 (by decide) ?_
      refine lv_goto (tgt := 18) hx hb dX6_in_14 (by decide) ?_
      exact endR hx hb hr hlocks rfl (Or.inl (⟨rfl, in_yes c_1 c_2⟩)) dX6_in_18
set_option maxHeartbeats 4000000 in
set_option maxRecDepth 100000 in
theorem c_X6_refuse2 (l : Launch) (G : va_G) (cy : Nat → ClassId) (sz : Nat) (qm : Nat) (v1 : Value) (v2 : Value) (v3 : Value) (v4 : Value) (v5 : Value) (v6 : Value) (v7 : Value) (v8 : Value) (v9 : Value) (qmr : Nat) (v10 : Value) (v11 : Value) (v12 : Value) (v13 : Value) (v14 : Value) (v15 : Value) (v16 : Value) (v17 : Value) (v18 : Value) (v19 : Value) (v20 : Value) (v21 : Value) (v22 : Value) (v23 : Value) (v24 : Value) (v25 : Value) (v26 : Value) (v27 : Value) (v28 : Value) (v29 : Value) (v30 : Value) (v31 : Value) (v32 : Value) (v33 : Value) (v34 : Value) (fR : Nat → Int32)   : MW l yX6_refuse cX6_refuse 2 (some .int) 1 0 0 G cy [(qm, .inr (5, [v1, v2, v3, v4, v5, v6, v7, v8, v9, .ref qmr, v10, v11, v12, v13, v14, v15, v16, v17, v18, v19, v20, v21, v22, v23, v24, v25, v26, v27, v28, v29, v30, v31, v32, v33, v34])), (qmr, .inl (cy 0, 8, .inl fR))] sz [.ref qm, .int (-2)] (Wi G (fun r u => u = [] ∧ ((r = (-2))))) := by
  refine enW RX6 (by decide) rfl (Nat.le_of_ble_eq_true rfl) (fun p e s m below meth c ls A hx hb hml hown hts hr hlocks hP hN hl hin hD hA hS => ?_)
  have hin : meth.name = _ := hin
  have hK := hN.1
  have hl : lv_has ls 2 [(0, .ref qm), (1, .int (-2))] := hl
  refine lv_aload_n hx hb dX6_refuse_0 rfl (lv_at hl 0 rfl) ?_
  refine va_get (D := G) (ci := 5) (v := .ref qmr) (C := RX6) (T := TX6) (N := 35) hx hb hts iX_X6 hown hK hP 0 rfl rfl 9 (by decide) (hts _ m_t859) (fun _ h9 => h9) rfl dX6_refuse_1 ?_
  refine lv_iload_n hx hb dX6_refuse_4 rfl (lv_at hl 1 rfl) ?_
  refine lv_ineg hx hb dX6_refuse_5 ?_
  refine lv_seti (v := 2) (by decide) ?_
  refine lv_dup2_11 hx hb dX6_refuse_6 rfl rfl ?_
  refine va_iald hx hb hK hP 1 0 rfl rfl (in_c rfl) dX6_refuse_7 ?_
  refine lv_seti (v := fR 2) (congrArg fR (by decide)) ?_
  refine lv_iconst (v := 1) hx hb dX6_refuse_8 (by decide) ?_
  refine lv_iadd hx hb dX6_refuse_9 ?_
  refine va_iast hx hb hK hP hD hS 1 0 rfl rfl (in_c rfl) dX6_refuse_10 (fun H locs hP hD hS => ?_)
  have hP : va_P G CL [(qm, .inr (5, [v1, v2, v3, v4, v5, v6, v7, v8, v9, .ref qmr, v10, v11, v12, v13, v14, v15, v16, v17, v18, v19, v20, v21, v22, v23, v24, v25, v26, v27, v28, v29, v30, v31, v32, v33, v34])), (qmr, .inl (cy 0, 8, .inl (upd fR 2 ((fR 2) + 1))))] H := hP
  have hD : va_D A [(qm, .inr (5, [v1, v2, v3, v4, v5, v6, v7, v8, v9, .ref qmr, v10, v11, v12, v13, v14, v15, v16, v17, v18, v19, v20, v21, v22, v23, v24, v25, v26, v27, v28, v29, v30, v31, v32, v33, v34])), (qmr, .inl (cy 0, 8, .inl (upd fR 2 ((fR 2) + 1))))] := hD
  refine lv_iload_n hx hb dX6_refuse_11 rfl (lv_at hl 1 rfl) ?_
  exact endW (u := []) hx hb hr hlocks rfl va_P0 va_D0 hS ⟨rfl, rfl⟩ dX6_refuse_12
set_option maxHeartbeats 4000000 in
set_option maxRecDepth 100000 in
theorem c_X6_refuse4 (l : Launch) (G : va_G) (cy : Nat → ClassId) (sz : Nat) (qm : Nat) (v1 : Value) (v2 : Value) (v3 : Value) (v4 : Value) (v5 : Value) (v6 : Value) (v7 : Value) (v8 : Value) (v9 : Value) (qmr : Nat) (v10 : Value) (v11 : Value) (v12 : Value) (v13 : Value) (v14 : Value) (v15 : Value) (v16 : Value) (v17 : Value) (v18 : Value) (v19 : Value) (v20 : Value) (v21 : Value) (v22 : Value) (v23 : Value) (v24 : Value) (v25 : Value) (v26 : Value) (v27 : Value) (v28 : Value) (v29 : Value) (v30 : Value) (v31 : Value) (v32 : Value) (v33 : Value) (v34 : Value) (fR : Nat → Int32)   : MW l yX6_refuse cX6_refuse 2 (some .int) 1 0 0 G cy [(qm, .inr (5, [v1, v2, v3, v4, v5, v6, v7, v8, v9, .ref qmr, v10, v11, v12, v13, v14, v15, v16, v17, v18, v19, v20, v21, v22, v23, v24, v25, v26, v27, v28, v29, v30, v31, v32, v33, v34])), (qmr, .inl (cy 0, 8, .inl fR))] sz [.ref qm, .int (-4)] (Wi G (fun r u => u = [] ∧ ((r = (-4))))) := by
  refine enW RX6 (by decide) rfl (Nat.le_of_ble_eq_true rfl) (fun p e s m below meth c ls A hx hb hml hown hts hr hlocks hP hN hl hin hD hA hS => ?_)
  have hin : meth.name = _ := hin
  have hK := hN.1
  have hl : lv_has ls 2 [(0, .ref qm), (1, .int (-4))] := hl
  refine lv_aload_n hx hb dX6_refuse_0 rfl (lv_at hl 0 rfl) ?_
  refine va_get (D := G) (ci := 5) (v := .ref qmr) (C := RX6) (T := TX6) (N := 35) hx hb hts iX_X6 hown hK hP 0 rfl rfl 9 (by decide) (hts _ m_t859) (fun _ h9 => h9) rfl dX6_refuse_1 ?_
  refine lv_iload_n hx hb dX6_refuse_4 rfl (lv_at hl 1 rfl) ?_
  refine lv_ineg hx hb dX6_refuse_5 ?_
  refine lv_seti (v := 4) (by decide) ?_
  refine lv_dup2_11 hx hb dX6_refuse_6 rfl rfl ?_
  refine va_iald hx hb hK hP 1 0 rfl rfl (in_c rfl) dX6_refuse_7 ?_
  refine lv_seti (v := fR 4) (congrArg fR (by decide)) ?_
  refine lv_iconst (v := 1) hx hb dX6_refuse_8 (by decide) ?_
  refine lv_iadd hx hb dX6_refuse_9 ?_
  refine va_iast hx hb hK hP hD hS 1 0 rfl rfl (in_c rfl) dX6_refuse_10 (fun H locs hP hD hS => ?_)
  have hP : va_P G CL [(qm, .inr (5, [v1, v2, v3, v4, v5, v6, v7, v8, v9, .ref qmr, v10, v11, v12, v13, v14, v15, v16, v17, v18, v19, v20, v21, v22, v23, v24, v25, v26, v27, v28, v29, v30, v31, v32, v33, v34])), (qmr, .inl (cy 0, 8, .inl (upd fR 4 ((fR 4) + 1))))] H := hP
  have hD : va_D A [(qm, .inr (5, [v1, v2, v3, v4, v5, v6, v7, v8, v9, .ref qmr, v10, v11, v12, v13, v14, v15, v16, v17, v18, v19, v20, v21, v22, v23, v24, v25, v26, v27, v28, v29, v30, v31, v32, v33, v34])), (qmr, .inl (cy 0, 8, .inl (upd fR 4 ((fR 4) + 1))))] := hD
  refine lv_iload_n hx hb dX6_refuse_11 rfl (lv_at hl 1 rfl) ?_
  exact endW (u := []) hx hb hr hlocks rfl va_P0 va_D0 hS ⟨rfl, rfl⟩ dX6_refuse_12
set_option maxHeartbeats 4000000 in
set_option maxRecDepth 100000 in
theorem c_X6_refuse5 (l : Launch) (G : va_G) (cy : Nat → ClassId) (sz : Nat) (qm : Nat) (v1 : Value) (v2 : Value) (v3 : Value) (v4 : Value) (v5 : Value) (v6 : Value) (v7 : Value) (v8 : Value) (v9 : Value) (qmr : Nat) (v10 : Value) (v11 : Value) (v12 : Value) (v13 : Value) (v14 : Value) (v15 : Value) (v16 : Value) (v17 : Value) (v18 : Value) (v19 : Value) (v20 : Value) (v21 : Value) (v22 : Value) (v23 : Value) (v24 : Value) (v25 : Value) (v26 : Value) (v27 : Value) (v28 : Value) (v29 : Value) (v30 : Value) (v31 : Value) (v32 : Value) (v33 : Value) (v34 : Value) (fR : Nat → Int32)   : MW l yX6_refuse cX6_refuse 2 (some .int) 1 0 0 G cy [(qm, .inr (5, [v1, v2, v3, v4, v5, v6, v7, v8, v9, .ref qmr, v10, v11, v12, v13, v14, v15, v16, v17, v18, v19, v20, v21, v22, v23, v24, v25, v26, v27, v28, v29, v30, v31, v32, v33, v34])), (qmr, .inl (cy 0, 8, .inl fR))] sz [.ref qm, .int (-5)] (Wi G (fun r u => u = [] ∧ ((r = (-5))))) := by
  refine enW RX6 (by decide) rfl (Nat.le_of_ble_eq_true rfl) (fun p e s m below meth c ls A hx hb hml hown hts hr hlocks hP hN hl hin hD hA hS => ?_)
  have hin : meth.name = _ := hin
  have hK := hN.1
  have hl : lv_has ls 2 [(0, .ref qm), (1, .int (-5))] := hl
  refine lv_aload_n hx hb dX6_refuse_0 rfl (lv_at hl 0 rfl) ?_
  refine va_get (D := G) (ci := 5) (v := .ref qmr) (C := RX6) (T := TX6) (N := 35) hx hb hts iX_X6 hown hK hP 0 rfl rfl 9 (by decide) (hts _ m_t859) (fun _ h9 => h9) rfl dX6_refuse_1 ?_
  refine lv_iload_n hx hb dX6_refuse_4 rfl (lv_at hl 1 rfl) ?_
  refine lv_ineg hx hb dX6_refuse_5 ?_
  refine lv_seti (v := 5) (by decide) ?_
  refine lv_dup2_11 hx hb dX6_refuse_6 rfl rfl ?_
  refine va_iald hx hb hK hP 1 0 rfl rfl (in_c rfl) dX6_refuse_7 ?_
  refine lv_seti (v := fR 5) (congrArg fR (by decide)) ?_
  refine lv_iconst (v := 1) hx hb dX6_refuse_8 (by decide) ?_
  refine lv_iadd hx hb dX6_refuse_9 ?_
  refine va_iast hx hb hK hP hD hS 1 0 rfl rfl (in_c rfl) dX6_refuse_10 (fun H locs hP hD hS => ?_)
  have hP : va_P G CL [(qm, .inr (5, [v1, v2, v3, v4, v5, v6, v7, v8, v9, .ref qmr, v10, v11, v12, v13, v14, v15, v16, v17, v18, v19, v20, v21, v22, v23, v24, v25, v26, v27, v28, v29, v30, v31, v32, v33, v34])), (qmr, .inl (cy 0, 8, .inl (upd fR 5 ((fR 5) + 1))))] H := hP
  have hD : va_D A [(qm, .inr (5, [v1, v2, v3, v4, v5, v6, v7, v8, v9, .ref qmr, v10, v11, v12, v13, v14, v15, v16, v17, v18, v19, v20, v21, v22, v23, v24, v25, v26, v27, v28, v29, v30, v31, v32, v33, v34])), (qmr, .inl (cy 0, 8, .inl (upd fR 5 ((fR 5) + 1))))] := hD
  refine lv_iload_n hx hb dX6_refuse_11 rfl (lv_at hl 1 rfl) ?_
  exact endW (u := []) hx hb hr hlocks rfl va_P0 va_D0 hS ⟨rfl, rfl⟩ dX6_refuse_12
set_option maxHeartbeats 4000000 in
set_option maxRecDepth 100000 in
theorem c_X6_isBook (l : Launch) (G : va_G) (cy : Nat → ClassId) (qm : Nat) (v1 : Value) (v2 : Value) (v3 : Value) (v4 : Value) (v5 : Value) (v6 : Value) (v7 : Value) (v8 : Value) (v9 : Value) (v10 : Value) (v11 : Value) (v12 : Value) (v13 : Value) (v14 : Value) (v15 : Value) (v16 : Value) (v17 : Value) (v18 : Value) (v19 : Value) (v20 : Value) (v21 : Value) (v22 : Value) (v23 : Value) (v24 : Value) (v25 : Value) (v26 : Value) (v27 : Value) (v28 : Value) (v29 : Value) (v30 : Value) (v31 : Value) (v32 : Value) (v33 : Value) (v34 : Value) (J1 : Int64)   : MR l yX6_isBook cX6_isBook 3 (some .boolean) 2 G cy [(qm, .inr (5, [v1, v2, v3, v4, v5, v6, v7, v8, v9, v10, .int 0, v11, v12, v13, v14, v15, v16, v17, v18, v19, v20, v21, v22, v23, v24, v25, v26, v27, v28, v29, v30, v31, v32, v33, v34]))] [.ref qm, .long J1] (vp_Si (fun r => (r = 0))) := by
  refine enR RX6 (by decide) rfl (Nat.le_of_ble_eq_true rfl) (fun p e s m below meth c ls hx hb hml hown hts hr hlocks hP hN hl => ?_)
  have hK := hN.1
  have hl : lv_has ls 3 [(0, .ref qm), (1, .long J1)] := hl
  refine lv_lload_n hx hb dX6_isBook_0 rfl (lv_at hl 1 rfl) ?_
  refine lv_lconst (v := 0) hx hb dX6_isBook_1 (by decide) ?_
  refine lv_aload_n hx hb dX6_isBook_2 rfl (lv_at hl 0 rfl) ?_
  refine va_get (D := G) (ci := 5) (v := .int 0) (C := RX6) (T := TX6) (N := 35) hx hb hts iX_X6 hown hK hP 0 rfl rfl 10 (by decide) (hts _ m_t860) (fun _ h9 => h9) rfl dX6_isBook_3 ?_
  refine lv_iconst (v := 1) hx hb dX6_isBook_6 (by decide) ?_
  refine lv_isub hx hb dX6_isBook_7 ?_
  refine lv_seti (v := (-1)) (by decide) ?_
  refine lv_i2l (v := (-1)) hx hb dX6_isBook_8 (by decide) ?_
  refine kRi (rS (As := [.long J1, .long 0, .long (-1)]) (rest := []) ⟨hx, hb, hml, hown, hts⟩ (c_X6_in l G cy J1 0 (-1)) L_X6_74 (preRS hN hP [] rfl) rfl ⟨Nat.le_of_ble_eq_true rfl, Nat.le_of_ble_eq_true rfl⟩ hl.1 (Nat.le_of_ble_eq_true rfl) dX6_isBook_9 ⟨Nat.le_of_ble_eq_true rfl, Nat.le_of_ble_eq_true rfl⟩) (fun r_1 h_2 => ?_)
  rcases h_2 with ⟨rfl, h_3⟩ | ⟨rfl, h_3⟩
  · exact (in_m1 h_3).elim
  · exact endR hx hb hr hlocks rfl rfl dX6_isBook_12
set_option maxHeartbeats 4000000 in
set_option maxRecDepth 100000 in
theorem c_X6_isOne (l : Launch) (G : va_G) (cy : Nat → ClassId) (qm : Nat) (v1 : Value) (v2 : Value) (v3 : Value) (v4 : Value) (v5 : Value) (v6 : Value) (v7 : Value) (v8 : Value) (v9 : Value) (v10 : Value) (v11 : Value) (v12 : Value) (v13 : Value) (v14 : Value) (v15 : Value) (v16 : Value) (v17 : Value) (v18 : Value) (v19 : Value) (v20 : Value) (v21 : Value) (v22 : Value) (v23 : Value) (v24 : Value) (v25 : Value) (v26 : Value) (v27 : Value) (v28 : Value) (v29 : Value) (v30 : Value) (v31 : Value) (v32 : Value) (v33 : Value) (v34 : Value) (J1 : Int64)   : MR l yX6_isOne cX6_isOne 3 (some .boolean) 2 G cy [(qm, .inr (5, [v1, v2, v3, v4, v5, v6, v7, v8, v9, v10, v11, v12, .int 0, v13, v14, v15, v16, v17, v18, v19, v20, v21, v22, v23, v24, v25, v26, v27, v28, v29, v30, v31, v32, v33, v34]))] [.ref qm, .long J1] (vp_Si (fun r => (r = 0))) := by
  refine enR RX6 (by decide) rfl (Nat.le_of_ble_eq_true rfl) (fun p e s m below meth c ls hx hb hml hown hts hr hlocks hP hN hl => ?_)
  have hK := hN.1
  have hl : lv_has ls 3 [(0, .ref qm), (1, .long J1)] := hl
  refine lv_lload_n hx hb dX6_isOne_0 rfl (lv_at hl 1 rfl) ?_
  refine lv_lconst (v := 0) hx hb dX6_isOne_1 (by decide) ?_
  refine lv_aload_n hx hb dX6_isOne_2 rfl (lv_at hl 0 rfl) ?_
  refine va_get (D := G) (ci := 5) (v := .int 0) (C := RX6) (T := TX6) (N := 35) hx hb hts iX_X6 hown hK hP 0 rfl rfl 12 (by decide) (hts _ m_t862) (fun _ h9 => h9) rfl dX6_isOne_3 ?_
  refine lv_iconst (v := 1) hx hb dX6_isOne_6 (by decide) ?_
  refine lv_isub hx hb dX6_isOne_7 ?_
  refine lv_seti (v := (-1)) (by decide) ?_
  refine lv_i2l (v := (-1)) hx hb dX6_isOne_8 (by decide) ?_
  refine kRi (rS (As := [.long J1, .long 0, .long (-1)]) (rest := []) ⟨hx, hb, hml, hown, hts⟩ (c_X6_in l G cy J1 0 (-1)) L_X6_74 (preRS hN hP [] rfl) rfl ⟨Nat.le_of_ble_eq_true rfl, Nat.le_of_ble_eq_true rfl⟩ hl.1 (Nat.le_of_ble_eq_true rfl) dX6_isOne_9 ⟨Nat.le_of_ble_eq_true rfl, Nat.le_of_ble_eq_true rfl⟩) (fun r_1 h_2 => ?_)
  rcases h_2 with ⟨rfl, h_3⟩ | ⟨rfl, h_3⟩
  · exact (in_m1 h_3).elim
  · exact endR hx hb hr hlocks rfl rfl dX6_isOne_12
set_option maxHeartbeats 4000000 in
set_option maxRecDepth 100000 in
theorem c_X6_thereMany (l : Launch) (G : va_G) (cy : Nat → ClassId) (qm : Nat) (v1 : Value) (v2 : Value) (v3 : Value) (v4 : Value) (v5 : Value) (v6 : Value) (v7 : Value) (v8 : Value) (v9 : Value) (v10 : Value) (v11 : Value) (v12 : Value) (v13 : Value) (v14 : Value) (v15 : Value) (v16 : Value) (v17 : Value) (v18 : Value) (v19 : Value) (v20 : Value) (v21 : Value) (v22 : Value) (v23 : Value) (v24 : Value) (v25 : Value) (v26 : Value) (v27 : Value) (v28 : Value) (v29 : Value) (v30 : Value) (v31 : Value) (v32 : Value) (v33 : Value) (v34 : Value)   : MR l yX6_thereMany cX6_thereMany 3 (some .int) 1 G cy [(qm, .inr (5, [v1, v2, v3, v4, v5, v6, v7, v8, v9, v10, v11, v12, .int 0, v13, v14, v15, v16, v17, v18, v19, v20, v21, v22, v23, v24, v25, v26, v27, v28, v29, v30, v31, v32, v33, v34]))] [.ref qm] (vp_Si (fun r => (r = 0))) := by
  refine enR RX6 (by decide) rfl (Nat.le_of_ble_eq_true rfl) (fun p e s m below meth c ls hx hb hml hown hts hr hlocks hP hN hl => ?_)
  have hK := hN.1
  have hl : lv_has ls 3 [(0, .ref qm)] := hl
  refine lv_iconst (v := 0) hx hb dX6_thereMany_0 (by decide) ?_
  refine lv_istore_n (lv' := [(1, .int 0), (0, .ref qm)]) hx hb dX6_thereMany_1 rfl hl (by decide) rfl (fun ls hl => ?_)
  refine lv_iconst (v := 0) hx hb dX6_thereMany_2 (by decide) ?_
  refine lv_istore_n (lv' := [(2, .int 0), (1, .int 0), (0, .ref qm)]) hx hb dX6_thereMany_3 rfl hl (by decide) rfl (fun ls hl => ?_)
  refine lv_iload_n hx hb dX6_thereMany_4 rfl (lv_at hl 0 rfl) ?_
  refine lv_aload_n hx hb dX6_thereMany_5 rfl (lv_at hl 2 rfl) ?_
  refine va_get (D := G) (ci := 5) (v := .int 0) (C := RX6) (T := TX6) (N := 35) hx hb hts iX_X6 hown hK hP 0 rfl rfl 12 (by decide) (hts _ m_t862) (fun _ h9 => h9) rfl dX6_thereMany_6 ?_
  refine lv_icmp_ge (tgt := 34) hx hb dX6_thereMany_9 (by decide) (fun _ => ?_) (fun h9 => absurd (by decide) h9)
  refine lv_iload_n hx hb dX6_thereMany_34 rfl (lv_at hl 1 rfl) ?_
  exact endR hx hb hr hlocks rfl rfl dX6_thereMany_35
set_option maxHeartbeats 4000000 in
set_option maxRecDepth 100000 in
theorem c_X6_whiteMany (l : Launch) (G : va_G) (cy : Nat → ClassId) (qm : Nat) (v1 : Value) (v2 : Value) (v3 : Value) (v4 : Value) (v5 : Value) (v6 : Value) (v7 : Value) (v8 : Value) (v9 : Value) (v10 : Value) (v11 : Value) (v12 : Value) (v13 : Value) (v14 : Value) (v15 : Value) (v16 : Value) (v17 : Value) (v18 : Value) (v19 : Value) (v20 : Value) (v21 : Value) (v22 : Value) (v23 : Value) (v24 : Value) (v25 : Value) (v26 : Value) (v27 : Value) (v28 : Value) (v29 : Value) (v30 : Value) (v31 : Value) (v32 : Value) (v33 : Value) (v34 : Value)   : MR l yX6_whiteMany cX6_whiteMany 3 (some .int) 1 G cy [(qm, .inr (5, [v1, v2, v3, v4, v5, v6, v7, v8, v9, v10, .int 0, v11, v12, v13, v14, v15, v16, v17, v18, v19, v20, v21, v22, v23, v24, v25, v26, v27, v28, v29, v30, v31, v32, v33, v34]))] [.ref qm] (vp_Si (fun r => (r = 0))) := by
  refine enR RX6 (by decide) rfl (Nat.le_of_ble_eq_true rfl) (fun p e s m below meth c ls hx hb hml hown hts hr hlocks hP hN hl => ?_)
  have hK := hN.1
  have hl : lv_has ls 3 [(0, .ref qm)] := hl
  refine lv_iconst (v := 0) hx hb dX6_whiteMany_0 (by decide) ?_
  refine lv_istore_n (lv' := [(1, .int 0), (0, .ref qm)]) hx hb dX6_whiteMany_1 rfl hl (by decide) rfl (fun ls hl => ?_)
  refine lv_iconst (v := 0) hx hb dX6_whiteMany_2 (by decide) ?_
  refine lv_istore_n (lv' := [(2, .int 0), (1, .int 0), (0, .ref qm)]) hx hb dX6_whiteMany_3 rfl hl (by decide) rfl (fun ls hl => ?_)
  refine lv_iload_n hx hb dX6_whiteMany_4 rfl (lv_at hl 0 rfl) ?_
  refine lv_aload_n hx hb dX6_whiteMany_5 rfl (lv_at hl 2 rfl) ?_
  refine va_get (D := G) (ci := 5) (v := .int 0) (C := RX6) (T := TX6) (N := 35) hx hb hts iX_X6 hown hK hP 0 rfl rfl 10 (by decide) (hts _ m_t860) (fun _ h9 => h9) rfl dX6_whiteMany_6 ?_
  refine lv_icmp_ge (tgt := 29) hx hb dX6_whiteMany_9 (by decide) (fun _ => ?_) (fun h9 => absurd (by decide) h9)
  refine lv_iload_n hx hb dX6_whiteMany_29 rfl (lv_at hl 1 rfl) ?_
  exact endR hx hb hr hlocks rfl rfl dX6_whiteMany_30
set_option maxHeartbeats 4000000 in
set_option maxRecDepth 100000 in
theorem c_X6_bits0 (l : Launch) (G : va_G) (cy : Nat → ClassId)    : MR l yX6_bits cX6_bits 3 (some .int) 1 G cy [] [.int 0] (vp_Si (fun r => (r = 0))) := by
  refine enR RX6 (by decide) rfl (Nat.le_of_ble_eq_true rfl) (fun p e s m below meth c ls hx hb hml hown hts hr hlocks hP hN hl => ?_)
  have hK := hN.1
  have hl : lv_has ls 3 [(0, .int 0)] := hl
  refine lv_iconst (v := 0) hx hb dX6_bits_0 (by decide) ?_
  refine lv_istore_n (lv' := [(1, .int 0), (0, .int 0)]) hx hb dX6_bits_1 rfl hl (by decide) rfl (fun ls hl => ?_)
  refine lv_iconst (v := 0) hx hb dX6_bits_2 (by decide) ?_
  refine lv_istore_n (lv' := [(2, .int 0), (1, .int 0), (0, .int 0)]) hx hb dX6_bits_3 rfl hl (by decide) rfl (fun ls hl => ?_)
  refine lv_iload_n hx hb dX6_bits_4 rfl (lv_at hl 0 rfl) ?_
  refine lv_bipush (v := 8) hx hb dX6_bits_5 (by decide) ?_
  refine lv_icmp_ge (tgt := 24) hx hb dX6_bits_7 (by decide) (fun h9 => absurd h9 (by decide)) (fun _ => ?_)
  refine lv_iload_n hx hb dX6_bits_10 rfl (lv_at hl 1 rfl) ?_
  refine lv_iload_n hx hb dX6_bits_11 rfl (lv_at hl 2 rfl) ?_
  refine lv_iload_n hx hb dX6_bits_12 rfl (lv_at hl 0 rfl) ?_
  refine lv_ishr hx hb dX6_bits_13 ?_
  refine lv_seti (v := 0) (by decide) ?_
  refine lv_iconst (v := 1) hx hb dX6_bits_14 (by decide) ?_
  refine lv_iand hx hb dX6_bits_15 ?_
  refine lv_seti (v := 0) (by decide) ?_
  refine lv_iadd hx hb dX6_bits_16 ?_
  refine lv_seti (v := 0) (by decide) ?_
  refine lv_istore_n (lv' := [(1, .int 0), (2, .int 0), (0, .int 0)]) hx hb dX6_bits_17 rfl hl (by decide) rfl (fun ls hl => ?_)
  refine lv_iinc (v := 1) (lv' := [(2, .int 1), (1, .int 0), (0, .int 0)]) hx hb dX6_bits_18 hl (k := 1) rfl (by decide) (by decide) rfl (fun ls hl => ?_)
  refine lv_goto (tgt := 4) hx hb dX6_bits_21 (by decide) ?_
  refine lv_iload_n hx hb dX6_bits_4 rfl (lv_at hl 0 rfl) ?_
  refine lv_bipush (v := 8) hx hb dX6_bits_5 (by decide) ?_
  refine lv_icmp_ge (tgt := 24) hx hb dX6_bits_7 (by decide) (fun h9 => absurd h9 (by decide)) (fun _ => ?_)
  refine lv_iload_n hx hb dX6_bits_10 rfl (lv_at hl 1 rfl) ?_
  refine lv_iload_n hx hb dX6_bits_11 rfl (lv_at hl 2 rfl) ?_
  refine lv_iload_n hx hb dX6_bits_12 rfl (lv_at hl 0 rfl) ?_
  refine lv_ishr hx hb dX6_bits_13 ?_
  refine lv_seti (v := 0) (by decide) ?_
  refine lv_iconst (v := 1) hx hb dX6_bits_14 (by decide) ?_
  refine lv_iand hx hb dX6_bits_15 ?_
  refine lv_seti (v := 0) (by decide) ?_
  refine lv_iadd hx hb dX6_bits_16 ?_
  refine lv_seti (v := 0) (by decide) ?_
  refine lv_istore_n (lv' := [(1, .int 0), (2, .int 1), (0, .int 0)]) hx hb dX6_bits_17 rfl hl (by decide) rfl (fun ls hl => ?_)
  refine lv_iinc (v := 2) (lv' := [(2, .int 2), (1, .int 0), (0, .int 0)]) hx hb dX6_bits_18 hl (k := 1) rfl (by decide) (by decide) rfl (fun ls hl => ?_)
  refine lv_goto (tgt := 4) hx hb dX6_bits_21 (by decide) ?_
  refine lv_iload_n hx hb dX6_bits_4 rfl (lv_at hl 0 rfl) ?_
  refine lv_bipush (v := 8) hx hb dX6_bits_5 (by decide) ?_
  refine lv_icmp_ge (tgt := 24) hx hb dX6_bits_7 (by decide) (fun h9 => absurd h9 (by decide)) (fun _ => ?_)
  refine lv_iload_n hx hb dX6_bits_10 rfl (lv_at hl 1 rfl) ?_
  refine lv_iload_n hx hb dX6_bits_11 rfl (lv_at hl 2 rfl) ?_
  refine lv_iload_n hx hb dX6_bits_12 rfl (lv_at hl 0 rfl) ?_
  refine lv_ishr hx hb dX6_bits_13 ?_
  refine lv_seti (v := 0) (by decide) ?_
  refine lv_iconst (v := 1) hx hb dX6_bits_14 (by decide) ?_
  refine lv_iand hx hb dX6_bits_15 ?_
  refine lv_seti (v := 0) (by decide) ?_
  refine lv_iadd hx hb dX6_bits_16 ?_
  refine lv_seti (v := 0) (by decide) ?_
  refine lv_istore_n (lv' := [(1, .int 0), (2, .int 2), (0, .int 0)]) hx hb dX6_bits_17 rfl hl (by decide) rfl (fun ls hl => ?_)
  refine lv_iinc (v := 3) (lv' := [(2, .int 3), (1, .int 0), (0, .int 0)]) hx hb dX6_bits_18 hl (k := 1) rfl (by decide) (by decide) rfl (fun ls hl => ?_)
  refine lv_goto (tgt := 4) hx hb dX6_bits_21 (by decide) ?_
  refine lv_iload_n hx hb dX6_bits_4 rfl (lv_at hl 0 rfl) ?_
  refine lv_bipush (v := 8) hx hb dX6_bits_5 (by decide) ?_
  refine lv_icmp_ge (tgt := 24) hx hb dX6_bits_7 (by decide) (fun h9 => absurd h9 (by decide)) (fun _ => ?_)
  refine lv_iload_n hx hb dX6_bits_10 rfl (lv_at hl 1 rfl) ?_
  refine lv_iload_n hx hb dX6_bits_11 rfl (lv_at hl 2 rfl) ?_
  refine lv_iload_n hx hb dX6_bits_12 rfl (lv_at hl 0 rfl) ?_
  refine lv_ishr hx hb dX6_bits_13 ?_
  refine lv_seti (v := 0) (by decide) ?_
  refine lv_iconst (v := 1) hx hb dX6_bits_14 (by decide) ?_
  refine lv_iand hx hb dX6_bits_15 ?_
  refine lv_seti (v := 0) (by decide) ?_
  refine lv_iadd hx hb dX6_bits_16 ?_
  refine lv_seti (v := 0) (by decide) ?_
  refine lv_istore_n (lv' := [(1, .int 0), (2, .int 3), (0, .int 0)]) hx hb dX6_bits_17 rfl hl (by decide) rfl (fun ls hl => ?_)
  refine lv_iinc (v := 4) (lv' := [(2, .int 4), (1, .int 0), (0, .int 0)]) hx hb dX6_bits_18 hl (k := 1) rfl (by decide) (by decide) rfl (fun ls hl => ?_)
  refine lv_goto (tgt := 4) hx hb dX6_bits_21 (by decide) ?_
  refine lv_iload_n hx hb dX6_bits_4 rfl (lv_at hl 0 rfl) ?_
  refine lv_bipush (v := 8) hx hb dX6_bits_5 (by decide) ?_
  refine lv_icmp_ge (tgt := 24) hx hb dX6_bits_7 (by decide) (fun h9 => absurd h9 (by decide)) (fun _ => ?_)
  refine lv_iload_n hx hb dX6_bits_10 rfl (lv_at hl 1 rfl) ?_
  refine lv_iload_n hx hb dX6_bits_11 rfl (lv_at hl 2 rfl) ?_
  refine lv_iload_n hx hb dX6_bits_12 rfl (lv_at hl 0 rfl) ?_
  refine lv_ishr hx hb dX6_bits_13 ?_
  refine lv_seti (v := 0) (by decide) ?_
  refine lv_iconst (v := 1) hx hb dX6_bits_14 (by decide) ?_
  refine lv_iand hx hb dX6_bits_15 ?_
  refine lv_seti (v := 0) (by decide) ?_
  refine lv_iadd hx hb dX6_bits_16 ?_
  refine lv_seti (v := 0) (by decide) ?_
  refine lv_istore_n (lv' := [(1, .int 0), (2, .int 4), (0, .int 0)]) hx hb dX6_bits_17 rfl hl (by decide) rfl (fun ls hl => ?_)
  refine lv_iinc (v := 5) (lv' := [(2, .int 5), (1, .int 0), (0, .int 0)]) hx hb dX6_bits_18 hl (k := 1) rfl (by decide) (by decide) rfl (fun ls hl => ?_)
  refine lv_goto (tgt := 4) hx hb dX6_bits_21 (by decide) ?_
  refine lv_iload_n hx hb dX6_bits_4 rfl (lv_at hl 0 rfl) ?_
  refine lv_bipush (v := 8) hx hb dX6_bits_5 (by decide) ?_
  refine lv_icmp_ge (tgt := 24) hx hb dX6_bits_7 (by decide) (fun h9 => absurd h9 (by decide)) (fun _ => ?_)
  refine lv_iload_n hx hb dX6_bits_10 rfl (lv_at hl 1 rfl) ?_
  refine lv_iload_n hx hb dX6_bits_11 rfl (lv_at hl 2 rfl) ?_
  refine lv_iload_n hx hb dX6_bits_12 rfl (lv_at hl 0 rfl) ?_
  refine lv_ishr hx hb dX6_bits_13 ?_
  refine lv_seti (v := 0) (by decide) ?_
  refine lv_iconst (v := 1) hx hb dX6_bits_14 (by decide) ?_
  refine lv_iand hx hb dX6_bits_15 ?_
  refine lv_seti (v := 0) (by decide) ?_
  refine lv_iadd hx hb dX6_bits_16 ?_
  refine lv_seti (v := 0) (by decide) ?_
  refine lv_istore_n (lv' := [(1, .int 0), (2, .int 5), (0, .int 0)]) hx hb dX6_bits_17 rfl hl (by decide) rfl (fun ls hl => ?_)
  refine lv_iinc (v := 6) (lv' := [(2, .int 6), (1, .int 0), (0, .int 0)]) hx hb dX6_bits_18 hl (k := 1) rfl (by decide) (by decide) rfl (fun ls hl => ?_)
  refine lv_goto (tgt := 4) hx hb dX6_bits_21 (by decide) ?_
  refine lv_iload_n hx hb dX6_bits_4 rfl (lv_at hl 0 rfl) ?_
  refine lv_bipush (v := 8) hx hb dX6_bits_5 (by decide) ?_
  refine lv_icmp_ge (tgt := 24) hx hb dX6_bits_7 (by decide) (fun h9 => absurd h9 (by decide)) (fun _ => ?_)
  refine lv_iload_n hx hb dX6_bits_10 rfl (lv_at hl 1 rfl) ?_
  refine lv_iload_n hx hb dX6_bits_11 rfl (lv_at hl 2 rfl) ?_
  refine lv_iload_n hx hb dX6_bits_12 rfl (lv_at hl 0 rfl) ?_
  refine lv_ishr hx hb dX6_bits_13 ?_
  refine lv_seti (v := 0) (by decide) ?_
  refine lv_iconst (v := 1) hx hb dX6_bits_14 (by decide) ?_
  refine lv_iand hx hb dX6_bits_15 ?_
  refine lv_seti (v := 0) (by decide) ?_
  refine lv_iadd hx hb dX6_bits_16 ?_
  refine lv_seti (v := 0) (by decide) ?_
  refine lv_istore_n (lv' := [(1, .int 0), (2, .int 6), (0, .int 0)]) hx hb dX6_bits_17 rfl hl (by decide) rfl (fun ls hl => ?_)
  refine lv_iinc (v := 7) (lv' := [(2, .int 7), (1, .int 0), (0, .int 0)]) hx hb dX6_bits_18 hl (k := 1) rfl (by decide) (by decide) rfl (fun ls hl => ?_)
  refine lv_goto (tgt := 4) hx hb dX6_bits_21 (by decide) ?_
  refine lv_iload_n hx hb dX6_bits_4 rfl (lv_at hl 0 rfl) ?_
  refine lv_bipush (v := 8) hx hb dX6_bits_5 (by decide) ?_
  refine lv_icmp_ge (tgt := 24) hx hb dX6_bits_7 (by decide) (fun h9 => absurd h9 (by decide)) (fun _ => ?_)
  refine lv_iload_n hx hb dX6_bits_10 rfl (lv_at hl 1 rfl) ?_
  refine lv_iload_n hx hb dX6_bits_11 rfl (lv_at hl 2 rfl) ?_
  refine lv_iload_n hx hb dX6_bits_12 rfl (lv_at hl 0 rfl) ?_
  refine lv_ishr hx hb dX6_bits_13 ?_
  refine lv_seti (v := 0) (by decide) ?_
  refine lv_iconst (v := 1) hx hb dX6_bits_14 (by decide) ?_
  refine lv_iand hx hb dX6_bits_15 ?_
  refine lv_seti (v := 0) (by decide) ?_
  refine lv_iadd hx hb dX6_bits_16 ?_
  refine lv_seti (v := 0) (by decide) ?_
  refine lv_istore_n (lv' := [(1, .int 0), (2, .int 7), (0, .int 0)]) hx hb dX6_bits_17 rfl hl (by decide) rfl (fun ls hl => ?_)
  refine lv_iinc (v := 8) (lv' := [(2, .int 8), (1, .int 0), (0, .int 0)]) hx hb dX6_bits_18 hl (k := 1) rfl (by decide) (by decide) rfl (fun ls hl => ?_)
  refine lv_goto (tgt := 4) hx hb dX6_bits_21 (by decide) ?_
  refine lv_iload_n hx hb dX6_bits_4 rfl (lv_at hl 0 rfl) ?_
  refine lv_bipush (v := 8) hx hb dX6_bits_5 (by decide) ?_
  refine lv_icmp_ge (tgt := 24) hx hb dX6_bits_7 (by decide) (fun _ => ?_) (fun h9 => absurd (by decide) h9)
  refine lv_iload_n hx hb dX6_bits_24 rfl (lv_at hl 1 rfl) ?_
  exact endR hx hb hr hlocks rfl rfl dX6_bits_25
set_option maxHeartbeats 4000000 in
set_option maxRecDepth 100000 in
theorem c_X6_noRow (l : Launch) (G : va_G) (cy : Nat → ClassId) (sz : Nat) (qm : Nat) (qms : Nat) (v1 : Value) (v2 : Value) (v3 : Value) (v4 : Value) (v5 : Value) (v6 : Value) (v7 : Value) (v8 : Value) (qmr : Nat) (v9 : Value) (v10 : Value) (v11 : Value) (v12 : Value) (v13 : Value) (v14 : Value) (v15 : Value) (v16 : Value) (v17 : Value) (v18 : Value) (v19 : Value) (v20 : Value) (v21 : Value) (v22 : Value) (v23 : Value) (v24 : Value) (v25 : Value) (v26 : Value) (v27 : Value) (v28 : Value) (v29 : Value) (v30 : Value) (v31 : Value) (v32 : Value) (v33 : Value) (iA : Int32)   : MW l yX6_noRow cX6_noRow 2 (some .int) 2 0 0 G cy [(qm, .inr (5, [.ref qms, v1, v2, v3, v4, v5, v6, v7, v8, .ref qmr, v9, v10, v11, v12, v13, v14, v15, v16, v17, v18, v19, v20, v21, v22, v23, v24, v25, v26, v27, v28, v29, v30, v31, v32, v33])), (qms, .inl (cy 0, 8, .inl (fun _ => 0))), (qmr, .inl (cy 0, 8, .inl (fun _ => 0)))] sz [.ref qm, .int iA] (Wi G (fun r u => u = [] ∧ ((r = (-2) ∧ ¬ In iA.toInt64 0 7) ∨ (r = (-4) ∧ In iA.toInt64 0 7)))) := by
  refine enW RX6 (by decide) rfl (Nat.le_of_ble_eq_true rfl) (fun p e s m below meth c ls A hx hb hml hown hts hr hlocks hP hN hl hin hD hA hS => ?_)
  have hin : meth.name = _ := hin
  have hK := hN.1
  have hl : lv_has ls 2 [(0, .ref qm), (1, .int iA)] := hl
  refine lv_iload_n hx hb dX6_noRow_0 rfl (lv_at hl 1 rfl) ?_
  refine lv_i2l (v := iA.toInt64) hx hb dX6_noRow_1 rfl ?_
  refine lv_lconst (v := 0) hx hb dX6_noRow_2 (by decide) ?_
  refine lv_ldc2 hx hb hown (hts _ m_t960) dX6_noRow_3 ?_
  refine kRi (rS (As := [.long iA.toInt64, .long 0, .long 7]) (rest := []) ⟨hx, hb, hml, hown, hts⟩ (c_X6_in l G cy iA.toInt64 0 7) L_X6_74 (preRS hN hP [] rfl) rfl ⟨Nat.le_of_ble_eq_true rfl, Nat.le_of_ble_eq_true rfl⟩ hl.1 (Nat.le_of_ble_eq_true rfl) dX6_noRow_6 ⟨Nat.le_of_ble_eq_true rfl, Nat.le_of_ble_eq_true rfl⟩) (fun r_1 h_2 => ?_)
  rcases h_2 with ⟨rfl, h_3⟩ | ⟨rfl, h_3⟩
  · refine lv_if_ne (tgt := 19) hx hb dX6_noRow_9 (by decide) (fun _ => ?_) (fun h9 => absurd h9 (by decide))
    refine lv_aload_n hx hb dX6_noRow_19 rfl (lv_at hl 0 rfl) ?_
    refine va_get (D := G) (ci := 5) (v := .ref qms) (C := RX6) (T := TX6) (N := 35) hx hb hts iX_X6 hown hK hP 0 rfl rfl 0 (by decide) (hts _ m_t850) (fun _ h9 => h9) rfl dX6_noRow_20 ?_
    refine lv_iload_n hx hb dX6_noRow_23 rfl (lv_at hl 1 rfl) ?_
    refine va_iald hx hb hK hP 1 0 rfl rfl (in_shelf h_3) dX6_noRow_24 ?_
    refine lv_seti (v := 0) rfl ?_
    refine lv_iconst (v := 2) hx hb dX6_noRow_25 (by decide) ?_
    refine lv_icmp_ne (tgt := 36) hx hb dX6_noRow_26 (by decide) (fun _ => ?_) (fun h9 => absurd h9 (by decide))
    refine lv_aload_n hx hb dX6_noRow_36 rfl (lv_at hl 0 rfl) ?_
    refine va_get (D := G) (ci := 5) (v := .ref qms) (C := RX6) (T := TX6) (N := 35) hx hb hts iX_X6 hown hK hP 0 rfl rfl 0 (by decide) (hts _ m_t850) (fun _ h9 => h9) rfl dX6_noRow_37 ?_
    refine lv_iload_n hx hb dX6_noRow_40 rfl (lv_at hl 1 rfl) ?_
    refine va_iald hx hb hK hP 1 0 rfl rfl (in_shelf h_3) dX6_noRow_41 ?_
    refine lv_seti (v := 0) rfl ?_
    refine lv_if_ne (tgt := 54) hx hb dX6_noRow_42 (by decide) (fun h9 => absurd (by decide) h9) (fun _ => ?_)
    refine lv_aload_n hx hb dX6_noRow_45 rfl (lv_at hl 0 rfl) ?_
    refine lv_bipush (v := (-4)) hx hb dX6_noRow_46 (by decide) ?_
    refine kWi (wr := [(qms, .inl (cy 0, 8, .inl (fun _ => 0)))]) (rV (As := [.int (-4)]) (rest := []) (b := qm) ⟨hx, hb, hml, hown, hts⟩ (c_X6_refuse4 l G cy (s.heap).size qm (.ref qms) v1 v2 v3 v4 v5 v6 v7 v8 qmr v9 v10 v11 v12 v13 v14 v15 v16 v17 v18 v19 v20 v21 v22 v23 v24 v25 v26 v27 v28 v29 v30 v31 v32 v33 (fun _ => 0)) L_X6_91 (preWV (q := (RX6, TX6, 35)) hN hP hD [0, 2] rfl (by decide) 0 5 rfl rfl) rfl ⟨Nat.le_of_ble_eq_true rfl, Nat.le_of_ble_eq_true rfl⟩ hl.1 (Nat.le_of_ble_eq_true rfl) dX6_noRow_48 ⟨Nat.le_of_ble_eq_true rfl, Nat.le_of_ble_eq_true rfl⟩) hP hD hS hA [0, 2] [1] rfl rfl (by decide) (by decide) (fun r_7 u_9 H locs h_8 hP hD hS => ?_)
    obtain ⟨rfl, h_8⟩ := h_8
    have hP : va_P G CL [(qms, .inl (cy 0, 8, .inl (fun _ => 0)))] H := hP
    have hD : va_D A [(qms, .inl (cy 0, 8, .inl (fun _ => 0)))] := hD
    subst h_8
    refine lv_goto (tgt := 55) hx hb dX6_noRow_51 (by decide) ?_
    exact endW (u := []) hx hb hr hlocks rfl va_P0 va_D0 hS ⟨rfl, (Or.inr (⟨rfl, h_3⟩))⟩ dX6_noRow_55
  · refine lv_if_ne (tgt := 19) hx hb dX6_noRow_9 (by decide) (fun h9 => absurd (by decide) h9) (fun _ => ?_)
    refine lv_aload_n hx hb dX6_noRow_12 rfl (lv_at hl 0 rfl) ?_
    refine lv_bipush (v := (-2)) hx hb dX6_noRow_13 (by decide) ?_
    refine kWi (wr := [(qms, .inl (cy 0, 8, .inl (fun _ => 0)))]) (rV (As := [.int (-2)]) (rest := []) (b := qm) ⟨hx, hb, hml, hown, hts⟩ (c_X6_refuse2 l G cy (s.heap).size qm (.ref qms) v1 v2 v3 v4 v5 v6 v7 v8 qmr v9 v10 v11 v12 v13 v14 v15 v16 v17 v18 v19 v20 v21 v22 v23 v24 v25 v26 v27 v28 v29 v30 v31 v32 v33 (fun _ => 0)) L_X6_91 (preWV (q := (RX6, TX6, 35)) hN hP hD [0, 2] rfl (by decide) 0 5 rfl rfl) rfl ⟨Nat.le_of_ble_eq_true rfl, Nat.le_of_ble_eq_true rfl⟩ hl.1 (Nat.le_of_ble_eq_true rfl) dX6_noRow_15 ⟨Nat.le_of_ble_eq_true rfl, Nat.le_of_ble_eq_true rfl⟩) hP hD hS hA [0, 2] [1] rfl rfl (by decide) (by decide) (fun r_11 u_13 H locs h_12 hP hD hS => ?_)
    obtain ⟨rfl, h_12⟩ := h_12
    have hP : va_P G CL [(qms, .inl (cy 0, 8, .inl (fun _ => 0)))] H := hP
    have hD : va_D A [(qms, .inl (cy 0, 8, .inl (fun _ => 0)))] := hD
    subst h_12
    exact endW (u := []) hx hb hr hlocks rfl va_P0 va_D0 hS ⟨rfl, (Or.inl (⟨rfl, h_3⟩))⟩ dX6_noRow_18
set_option maxHeartbeats 4000000 in
set_option maxRecDepth 100000 in
theorem c_X6_noRule (l : Launch) (G : va_G) (cy : Nat → ClassId) (sz : Nat) (qm : Nat) (qms : Nat) (v1 : Value) (v2 : Value) (v3 : Value) (v4 : Value) (v5 : Value) (v6 : Value) (v7 : Value) (v8 : Value) (qmr : Nat) (v9 : Value) (v10 : Value) (v11 : Value) (v12 : Value) (v13 : Value) (v14 : Value) (v15 : Value) (v16 : Value) (v17 : Value) (v18 : Value) (v19 : Value) (v20 : Value) (v21 : Value) (v22 : Value) (v23 : Value) (v24 : Value) (v25 : Value) (v26 : Value) (v27 : Value) (v28 : Value) (v29 : Value) (v30 : Value) (v31 : Value) (v32 : Value) (v33 : Value) (iA : Int32)   : MW l yX6_noRule cX6_noRule 2 (some .int) 2 0 0 G cy [(qm, .inr (5, [.ref qms, v1, v2, v3, v4, v5, v6, v7, v8, .ref qmr, v9, v10, v11, v12, v13, v14, v15, v16, v17, v18, v19, v20, v21, v22, v23, v24, v25, v26, v27, v28, v29, v30, v31, v32, v33])), (qms, .inl (cy 0, 8, .inl (fun _ => 0))), (qmr, .inl (cy 0, 8, .inl (fun _ => 0)))] sz [.ref qm, .int iA] (Wi G (fun r u => u = [] ∧ ((r = (-2) ∧ ¬ In iA.toInt64 0 7) ∨ (r = (-4) ∧ In iA.toInt64 0 7)))) := by
  refine enW RX6 (by decide) rfl (Nat.le_of_ble_eq_true rfl) (fun p e s m below meth c ls A hx hb hml hown hts hr hlocks hP hN hl hin hD hA hS => ?_)
  have hin : meth.name = _ := hin
  have hK := hN.1
  have hl : lv_has ls 2 [(0, .ref qm), (1, .int iA)] := hl
  refine lv_iload_n hx hb dX6_noRule_0 rfl (lv_at hl 1 rfl) ?_
  refine lv_i2l (v := iA.toInt64) hx hb dX6_noRule_1 rfl ?_
  refine lv_lconst (v := 0) hx hb dX6_noRule_2 (by decide) ?_
  refine lv_ldc2 hx hb hown (hts _ m_t960) dX6_noRule_3 ?_
  refine kRi (rS (As := [.long iA.toInt64, .long 0, .long 7]) (rest := []) ⟨hx, hb, hml, hown, hts⟩ (c_X6_in l G cy iA.toInt64 0 7) L_X6_74 (preRS hN hP [] rfl) rfl ⟨Nat.le_of_ble_eq_true rfl, Nat.le_of_ble_eq_true rfl⟩ hl.1 (Nat.le_of_ble_eq_true rfl) dX6_noRule_6 ⟨Nat.le_of_ble_eq_true rfl, Nat.le_of_ble_eq_true rfl⟩) (fun r_1 h_2 => ?_)
  rcases h_2 with ⟨rfl, h_3⟩ | ⟨rfl, h_3⟩
  · refine lv_if_ne (tgt := 19) hx hb dX6_noRule_9 (by decide) (fun _ => ?_) (fun h9 => absurd h9 (by decide))
    refine lv_aload_n hx hb dX6_noRule_19 rfl (lv_at hl 0 rfl) ?_
    refine va_get (D := G) (ci := 5) (v := .ref qms) (C := RX6) (T := TX6) (N := 35) hx hb hts iX_X6 hown hK hP 0 rfl rfl 0 (by decide) (hts _ m_t850) (fun _ h9 => h9) rfl dX6_noRule_20 ?_
    refine lv_iload_n hx hb dX6_noRule_23 rfl (lv_at hl 1 rfl) ?_
    refine va_iald hx hb hK hP 1 0 rfl rfl (in_shelf h_3) dX6_noRule_24 ?_
    refine lv_seti (v := 0) rfl ?_
    refine lv_iconst (v := 1) hx hb dX6_noRule_25 (by decide) ?_
    refine lv_icmp_ne (tgt := 36) hx hb dX6_noRule_26 (by decide) (fun _ => ?_) (fun h9 => absurd h9 (by decide))
    refine lv_aload_n hx hb dX6_noRule_36 rfl (lv_at hl 0 rfl) ?_
    refine va_get (D := G) (ci := 5) (v := .ref qms) (C := RX6) (T := TX6) (N := 35) hx hb hts iX_X6 hown hK hP 0 rfl rfl 0 (by decide) (hts _ m_t850) (fun _ h9 => h9) rfl dX6_noRule_37 ?_
    refine lv_iload_n hx hb dX6_noRule_40 rfl (lv_at hl 1 rfl) ?_
    refine va_iald hx hb hK hP 1 0 rfl rfl (in_shelf h_3) dX6_noRule_41 ?_
    refine lv_seti (v := 0) rfl ?_
    refine lv_if_ne (tgt := 54) hx hb dX6_noRule_42 (by decide) (fun h9 => absurd (by decide) h9) (fun _ => ?_)
    refine lv_aload_n hx hb dX6_noRule_45 rfl (lv_at hl 0 rfl) ?_
    refine lv_bipush (v := (-4)) hx hb dX6_noRule_46 (by decide) ?_
    refine kWi (wr := [(qms, .inl (cy 0, 8, .inl (fun _ => 0)))]) (rV (As := [.int (-4)]) (rest := []) (b := qm) ⟨hx, hb, hml, hown, hts⟩ (c_X6_refuse4 l G cy (s.heap).size qm (.ref qms) v1 v2 v3 v4 v5 v6 v7 v8 qmr v9 v10 v11 v12 v13 v14 v15 v16 v17 v18 v19 v20 v21 v22 v23 v24 v25 v26 v27 v28 v29 v30 v31 v32 v33 (fun _ => 0)) L_X6_91 (preWV (q := (RX6, TX6, 35)) hN hP hD [0, 2] rfl (by decide) 0 5 rfl rfl) rfl ⟨Nat.le_of_ble_eq_true rfl, Nat.le_of_ble_eq_true rfl⟩ hl.1 (Nat.le_of_ble_eq_true rfl) dX6_noRule_48 ⟨Nat.le_of_ble_eq_true rfl, Nat.le_of_ble_eq_true rfl⟩) hP hD hS hA [0, 2] [1] rfl rfl (by decide) (by decide) (fun r_7 u_9 H locs h_8 hP hD hS => ?_)
    obtain ⟨rfl, h_8⟩ := h_8
    have hP : va_P G CL [(qms, .inl (cy 0, 8, .inl (fun _ => 0)))] H := hP
    have hD : va_D A [(qms, .inl (cy 0, 8, .inl (fun _ => 0)))] := hD
    subst h_8
    refine lv_goto (tgt := 55) hx hb dX6_noRule_51 (by decide) ?_
    exact endW (u := []) hx hb hr hlocks rfl va_P0 va_D0 hS ⟨rfl, (Or.inr (⟨rfl, h_3⟩))⟩ dX6_noRule_55
  · refine lv_if_ne (tgt := 19) hx hb dX6_noRule_9 (by decide) (fun h9 => absurd (by decide) h9) (fun _ => ?_)
    refine lv_aload_n hx hb dX6_noRule_12 rfl (lv_at hl 0 rfl) ?_
    refine lv_bipush (v := (-2)) hx hb dX6_noRule_13 (by decide) ?_
    refine kWi (wr := [(qms, .inl (cy 0, 8, .inl (fun _ => 0)))]) (rV (As := [.int (-2)]) (rest := []) (b := qm) ⟨hx, hb, hml, hown, hts⟩ (c_X6_refuse2 l G cy (s.heap).size qm (.ref qms) v1 v2 v3 v4 v5 v6 v7 v8 qmr v9 v10 v11 v12 v13 v14 v15 v16 v17 v18 v19 v20 v21 v22 v23 v24 v25 v26 v27 v28 v29 v30 v31 v32 v33 (fun _ => 0)) L_X6_91 (preWV (q := (RX6, TX6, 35)) hN hP hD [0, 2] rfl (by decide) 0 5 rfl rfl) rfl ⟨Nat.le_of_ble_eq_true rfl, Nat.le_of_ble_eq_true rfl⟩ hl.1 (Nat.le_of_ble_eq_true rfl) dX6_noRule_15 ⟨Nat.le_of_ble_eq_true rfl, Nat.le_of_ble_eq_true rfl⟩) hP hD hS hA [0, 2] [1] rfl rfl (by decide) (by decide) (fun r_11 u_13 H locs h_12 hP hD hS => ?_)
    obtain ⟨rfl, h_12⟩ := h_12
    have hP : va_P G CL [(qms, .inl (cy 0, 8, .inl (fun _ => 0)))] H := hP
    have hD : va_D A [(qms, .inl (cy 0, 8, .inl (fun _ => 0)))] := hD
    subst h_12
    exact endW (u := []) hx hb hr hlocks rfl va_P0 va_D0 hS ⟨rfl, (Or.inl (⟨rfl, h_3⟩))⟩ dX6_noRule_18
set_option maxHeartbeats 4000000 in
set_option maxRecDepth 100000 in
theorem c_X6_noTold (l : Launch) (G : va_G) (cy : Nat → ClassId) (sz : Nat) (qm : Nat) (qms : Nat) (v1 : Value) (v2 : Value) (v3 : Value) (v4 : Value) (v5 : Value) (v6 : Value) (v7 : Value) (v8 : Value) (qmr : Nat) (v9 : Value) (v10 : Value) (v11 : Value) (v12 : Value) (v13 : Value) (v14 : Value) (v15 : Value) (v16 : Value) (v17 : Value) (v18 : Value) (v19 : Value) (v20 : Value) (v21 : Value) (v22 : Value) (v23 : Value) (v24 : Value) (v25 : Value) (v26 : Value) (v27 : Value) (v28 : Value) (v29 : Value) (v30 : Value) (v31 : Value) (v32 : Value) (v33 : Value) (iA : Int32) (iB : Int32)   : MW l yX6_noTold cX6_noTold 4 (some .int) 3 0 0 G cy [(qm, .inr (5, [.ref qms, v1, v2, v3, v4, v5, v6, v7, v8, .ref qmr, v9, v10, v11, v12, v13, v14, v15, v16, v17, v18, v19, v20, v21, v22, v23, v24, v25, v26, v27, v28, v29, v30, v31, v32, v33])), (qms, .inl (cy 0, 8, .inl (fun _ => 0))), (qmr, .inl (cy 0, 8, .inl (fun _ => 0)))] sz [.ref qm, .int iA, .int iB] (Wi G (fun r u => u = [] ∧ ((r = (-2) ∧ ¬ (In iA.toInt64 0 7 ∧ In iB.toInt64 0 20)) ∨ (r = (-4) ∧ In iA.toInt64 0 7 ∧ In iB.toInt64 0 20)))) := by
  refine enW RX6 (by decide) rfl (Nat.le_of_ble_eq_true rfl) (fun p e s m below meth c ls A hx hb hml hown hts hr hlocks hP hN hl hin hD hA hS => ?_)
  have hin : meth.name = _ := hin
  have hK := hN.1
  have hl : lv_has ls 4 [(0, .ref qm), (1, .int iA), (2, .int iB)] := hl
  refine lv_iload_n hx hb dX6_noTold_0 rfl (lv_at hl 1 rfl) ?_
  refine lv_i2l (v := iA.toInt64) hx hb dX6_noTold_1 rfl ?_
  refine lv_lconst (v := 0) hx hb dX6_noTold_2 (by decide) ?_
  refine lv_ldc2 hx hb hown (hts _ m_t960) dX6_noTold_3 ?_
  refine kRi (rS (As := [.long iA.toInt64, .long 0, .long 7]) (rest := []) ⟨hx, hb, hml, hown, hts⟩ (c_X6_in l G cy iA.toInt64 0 7) L_X6_74 (preRS hN hP [] rfl) rfl ⟨Nat.le_of_ble_eq_true rfl, Nat.le_of_ble_eq_true rfl⟩ hl.1 (Nat.le_of_ble_eq_true rfl) dX6_noTold_6 ⟨Nat.le_of_ble_eq_true rfl, Nat.le_of_ble_eq_true rfl⟩) (fun r_1 h_2 => ?_)
  rcases h_2 with ⟨rfl, h_3⟩ | ⟨rfl, h_3⟩
  · refine lv_if_eq (tgt := 24) hx hb dX6_noTold_9 (by decide) (fun h9 => absurd h9 (by decide)) (fun _ => ?_)
    refine lv_iload_n hx hb dX6_noTold_12 rfl (lv_at hl 2 rfl) ?_
    refine lv_i2l (v := iB.toInt64) hx hb dX6_noTold_13 rfl ?_
    refine lv_lconst (v := 0) hx hb dX6_noTold_14 (by decide) ?_
    refine lv_ldc2 hx hb hown (hts _ m_t1355) dX6_noTold_15 ?_
    refine kRi (rS (As := [.long iB.toInt64, .long 0, .long 20]) (rest := []) ⟨hx, hb, hml, hown, hts⟩ (c_X6_in l G cy iB.toInt64 0 20) L_X6_74 (preRS hN hP [] rfl) rfl ⟨Nat.le_of_ble_eq_true rfl, Nat.le_of_ble_eq_true rfl⟩ hl.1 (Nat.le_of_ble_eq_true rfl) dX6_noTold_18 ⟨Nat.le_of_ble_eq_true rfl, Nat.le_of_ble_eq_true rfl⟩) (fun r_5 h_6 => ?_)
    rcases h_6 with ⟨rfl, h_7⟩ | ⟨rfl, h_7⟩
    · refine lv_if_ne (tgt := 31) hx hb dX6_noTold_21 (by decide) (fun _ => ?_) (fun h9 => absurd h9 (by decide))
      refine lv_aload_n hx hb dX6_noTold_31 rfl (lv_at hl 0 rfl) ?_
      refine lv_iload_n hx hb dX6_noTold_32 rfl (lv_at hl 1 rfl) ?_
      refine kWi (wr := []) (rV (As := [.int iA]) (rest := []) (b := qm) ⟨hx, hb, hml, hown, hts⟩ (c_X6_noRow l G cy (s.heap).size qm qms v1 v2 v3 v4 v5 v6 v7 v8 qmr v9 v10 v11 v12 v13 v14 v15 v16 v17 v18 v19 v20 v21 v22 v23 v24 v25 v26 v27 v28 v29 v30 v31 v32 v33 iA) L_X6_95 (preWV (q := (RX6, TX6, 35)) hN hP hD [0, 1, 2] rfl (by decide) 0 5 rfl rfl) rfl ⟨Nat.le_of_ble_eq_true rfl, Nat.le_of_ble_eq_true rfl⟩ hl.1 (Nat.le_of_ble_eq_true rfl) dX6_noTold_33 ⟨Nat.le_of_ble_eq_true rfl, Nat.le_of_ble_eq_true rfl⟩) hP hD hS hA [0, 1, 2] [] rfl rfl (by decide) (by decide) (fun r_9 u_11 H locs h_10 hP hD hS => ?_)
      obtain ⟨rfl, h_10⟩ := h_10
      have hP : va_P G CL [] H := hP
      have hD : va_D A [] := hD
      rcases h_10 with ⟨rfl, h_12⟩ | ⟨rfl, h_12⟩
      · refine lv_istore_n (lv' := [(3, .int (-2)), (0, .ref qm), (1, .int iA), (2, .int iB)]) hx hb dX6_noTold_36 rfl hl (by decide) rfl (fun ls hl => ?_)
        refine lv_iload_n hx hb dX6_noTold_37 rfl (lv_at hl 0 rfl) ?_
        refine lv_if_eq (tgt := 43) hx hb dX6_noTold_38 (by decide) (fun h9 => absurd h9 (by decide)) (fun _ => ?_)
        refine lv_iload_n hx hb dX6_noTold_41 rfl (lv_at hl 0 rfl) ?_
        exact endW (u := []) hx hb hr hlocks rfl va_P0 va_D0 hS ⟨rfl, (Or.inl (⟨rfl, by first | (simp [h_3, h_7, h_12]; done) | (simp_all; done)⟩))⟩ dX6_noTold_42
      · refine lv_istore_n (lv' := [(3, .int (-4)), (0, .ref qm), (1, .int iA), (2, .int iB)]) hx hb dX6_noTold_36 rfl hl (by decide) rfl (fun ls hl => ?_)
        refine lv_iload_n hx hb dX6_noTold_37 rfl (lv_at hl 0 rfl) ?_
        refine lv_if_eq (tgt := 43) hx hb dX6_noTold_38 (by decide) (fun h9 => absurd h9 (by decide)) (fun _ => ?_)
        refine lv_iload_n hx hb dX6_noTold_41 rfl (lv_at hl 0 rfl) ?_
        exact endW (u := []) hx hb hr hlocks rfl va_P0 va_D0 hS ⟨rfl, (Or.inr (⟨rfl, by first | (simp [h_3, h_7, h_12]; done) | (simp_all; done)⟩))⟩ dX6_noTold_42
    · refine lv_if_ne (tgt := 31) hx hb dX6_noTold_21 (by decide) (fun h9 => absurd (by decide) h9) (fun _ => ?_)
      refine lv_aload_n hx hb dX6_noTold_24 rfl (lv_at hl 0 rfl) ?_
      refine lv_bipush (v := (-2)) hx hb dX6_noTold_25 (by decide) ?_
      refine kWi (wr := [(qms, .inl (cy 0, 8, .inl (fun _ => 0)))]) (rV (As := [.int (-2)]) (rest := []) (b := qm) ⟨hx, hb, hml, hown, hts⟩ (c_X6_refuse2 l G cy (s.heap).size qm (.ref qms) v1 v2 v3 v4 v5 v6 v7 v8 qmr v9 v10 v11 v12 v13 v14 v15 v16 v17 v18 v19 v20 v21 v22 v23 v24 v25 v26 v27 v28 v29 v30 v31 v32 v33 (fun _ => 0)) L_X6_91 (preWV (q := (RX6, TX6, 35)) hN hP hD [0, 2] rfl (by decide) 0 5 rfl rfl) rfl ⟨Nat.le_of_ble_eq_true rfl, Nat.le_of_ble_eq_true rfl⟩ hl.1 (Nat.le_of_ble_eq_true rfl) dX6_noTold_27 ⟨Nat.le_of_ble_eq_true rfl, Nat.le_of_ble_eq_true rfl⟩) hP hD hS hA [0, 2] [1] rfl rfl (by decide) (by decide) (fun r_16 u_18 H locs h_17 hP hD hS => ?_)
      obtain ⟨rfl, h_17⟩ := h_17
      have hP : va_P G CL [(qms, .inl (cy 0, 8, .inl (fun _ => 0)))] H := hP
      have hD : va_D A [(qms, .inl (cy 0, 8, .inl (fun _ => 0)))] := hD
      subst h_17
      exact endW (u := []) hx hb hr hlocks rfl va_P0 va_D0 hS ⟨rfl, (Or.inl (⟨rfl, by first | (simp [h_3, h_7]; done) | (simp_all; done)⟩))⟩ dX6_noTold_30
  · refine lv_if_eq (tgt := 24) hx hb dX6_noTold_9 (by decide) (fun _ => ?_) (fun h9 => absurd (by decide) h9)
    refine lv_aload_n hx hb dX6_noTold_24 rfl (lv_at hl 0 rfl) ?_
    refine lv_bipush (v := (-2)) hx hb dX6_noTold_25 (by decide) ?_
    refine kWi (wr := [(qms, .inl (cy 0, 8, .inl (fun _ => 0)))]) (rV (As := [.int (-2)]) (rest := []) (b := qm) ⟨hx, hb, hml, hown, hts⟩ (c_X6_refuse2 l G cy (s.heap).size qm (.ref qms) v1 v2 v3 v4 v5 v6 v7 v8 qmr v9 v10 v11 v12 v13 v14 v15 v16 v17 v18 v19 v20 v21 v22 v23 v24 v25 v26 v27 v28 v29 v30 v31 v32 v33 (fun _ => 0)) L_X6_91 (preWV (q := (RX6, TX6, 35)) hN hP hD [0, 2] rfl (by decide) 0 5 rfl rfl) rfl ⟨Nat.le_of_ble_eq_true rfl, Nat.le_of_ble_eq_true rfl⟩ hl.1 (Nat.le_of_ble_eq_true rfl) dX6_noTold_27 ⟨Nat.le_of_ble_eq_true rfl, Nat.le_of_ble_eq_true rfl⟩) hP hD hS hA [0, 2] [1] rfl rfl (by decide) (by decide) (fun r_20 u_22 H locs h_21 hP hD hS => ?_)
    obtain ⟨rfl, h_21⟩ := h_21
    have hP : va_P G CL [(qms, .inl (cy 0, 8, .inl (fun _ => 0)))] H := hP
    have hD : va_D A [(qms, .inl (cy 0, 8, .inl (fun _ => 0)))] := hD
    subst h_21
    exact endW (u := []) hx hb hr hlocks rfl va_P0 va_D0 hS ⟨rfl, (Or.inl (⟨rfl, by first | (simp [h_3]; done) | (simp_all; done)⟩))⟩ dX6_noTold_30
set_option maxHeartbeats 4000000 in
set_option maxRecDepth 100000 in
theorem c_X6_noReading (l : Launch) (G : va_G) (cy : Nat → ClassId) (sz : Nat) (qm : Nat) (v1 : Value) (v2 : Value) (v3 : Value) (v4 : Value) (v5 : Value) (v6 : Value) (v7 : Value) (v8 : Value) (v9 : Value) (qmr : Nat) (v10 : Value) (v11 : Value) (v12 : Value) (v13 : Value) (v14 : Value) (v15 : Value) (v16 : Value) (v17 : Value) (v18 : Value) (v19 : Value) (v20 : Value) (v21 : Value) (v22 : Value) (v23 : Value) (v24 : Value) (v25 : Value) (v26 : Value) (v27 : Value) (v28 : Value) (v29 : Value) (v30 : Value) (v31 : Value) (v32 : Value) (v33 : Value) (iA : Int32) (iB : Int32)   : MW l yX6_noReading cX6_noReading 3 (some .int) 3 0 0 G cy [(qm, .inr (5, [v1, v2, v3, v4, v5, v6, v7, v8, v9, .ref qmr, v10, v11, .int 0, v12, v13, v14, v15, v16, v17, v18, v19, v20, v21, v22, v23, v24, v25, v26, v27, v28, v29, v30, v31, v32, v33])), (qmr, .inl (cy 0, 8, .inl (fun _ => 0)))] sz [.ref qm, .int iA, .int iB] (Wi G (fun r u => u = [] ∧ ((r = (-2))))) := by
  refine enW RX6 (by decide) rfl (Nat.le_of_ble_eq_true rfl) (fun p e s m below meth c ls A hx hb hml hown hts hr hlocks hP hN hl hin hD hA hS => ?_)
  have hin : meth.name = _ := hin
  have hK := hN.1
  have hl : lv_has ls 3 [(0, .ref qm), (1, .int iA), (2, .int iB)] := hl
  refine lv_aload_n hx hb dX6_noReading_0 rfl (lv_at hl 0 rfl) ?_
  refine lv_iload_n hx hb dX6_noReading_1 rfl (lv_at hl 1 rfl) ?_
  refine lv_i2l (v := iA.toInt64) hx hb dX6_noReading_2 rfl ?_
  refine kRi (rV (As := [.long iA.toInt64]) (rest := []) (b := qm) ⟨hx, hb, hml, hown, hts⟩ (c_X6_isOne l G cy qm v1 v2 v3 v4 v5 v6 v7 v8 v9 (.ref qmr) v10 v11 v12 v13 v14 v15 v16 v17 v18 v19 v20 v21 v22 v23 v24 v25 v26 v27 v28 v29 v30 v31 v32 v33 iA.toInt64) L_X6_236 (preRV (q := (RX6, TX6, 35)) hN hP [0] rfl 0 5 rfl rfl) rfl ⟨Nat.le_of_ble_eq_true rfl, Nat.le_of_ble_eq_true rfl⟩ hl.1 (Nat.le_of_ble_eq_true rfl) dX6_noReading_3 ⟨Nat.le_of_ble_eq_true rfl, Nat.le_of_ble_eq_true rfl⟩) (fun r_1 h_2 => ?_)
  subst h_2
  refine lv_if_eq (tgt := 18) hx hb dX6_noReading_6 (by decide) (fun _ => ?_) (fun h9 => absurd (by decide) h9)
  refine lv_aload_n hx hb dX6_noReading_18 rfl (lv_at hl 0 rfl) ?_
  refine lv_bipush (v := (-2)) hx hb dX6_noReading_19 (by decide) ?_
  refine kWi (wr := []) (rV (As := [.int (-2)]) (rest := []) (b := qm) ⟨hx, hb, hml, hown, hts⟩ (c_X6_refuse2 l G cy (s.heap).size qm v1 v2 v3 v4 v5 v6 v7 v8 v9 qmr v10 v11 (.int 0) v12 v13 v14 v15 v16 v17 v18 v19 v20 v21 v22 v23 v24 v25 v26 v27 v28 v29 v30 v31 v32 v33 (fun _ => 0)) L_X6_91 (preWV (q := (RX6, TX6, 35)) hN hP hD [0, 1] rfl (by decide) 0 5 rfl rfl) rfl ⟨Nat.le_of_ble_eq_true rfl, Nat.le_of_ble_eq_true rfl⟩ hl.1 (Nat.le_of_ble_eq_true rfl) dX6_noReading_21 ⟨Nat.le_of_ble_eq_true rfl, Nat.le_of_ble_eq_true rfl⟩) hP hD hS hA [0, 1] [] rfl rfl (by decide) (by decide) (fun r_4 u_6 H locs h_5 hP hD hS => ?_)
  obtain ⟨rfl, h_5⟩ := h_5
  have hP : va_P G CL [] H := hP
  have hD : va_D A [] := hD
  subst h_5
  exact endW (u := []) hx hb hr hlocks rfl va_P0 va_D0 hS ⟨rfl, rfl⟩ dX6_noReading_24
set_option maxHeartbeats 4000000 in
set_option maxRecDepth 100000 in
theorem c_X6_valueOf (l : Launch) (G : va_G) (cy : Nat → ClassId) (qm : Nat) (v1 : Value) (v2 : Value) (v3 : Value) (v4 : Value) (v5 : Value) (v6 : Value) (v7 : Value) (v8 : Value) (v9 : Value) (v10 : Value) (v11 : Value) (v12 : Value) (v13 : Value) (v14 : Value) (v15 : Value) (v16 : Value) (v17 : Value) (v18 : Value) (v19 : Value) (v20 : Value) (v21 : Value) (v22 : Value) (v23 : Value) (v24 : Value) (v25 : Value) (v26 : Value) (v27 : Value) (v28 : Value) (v29 : Value) (v30 : Value) (v31 : Value) (v32 : Value) (v33 : Value) (v34 : Value) (iA : Int32)   : MR l yX6_valueOf cX6_valueOf 4 (some .int) 1 G cy [(qm, .inr (5, [v1, v2, v3, v4, v5, v6, v7, v8, v9, v10, .int 0, v11, v12, v13, v14, v15, v16, v17, v18, v19, v20, v21, v22, v23, v24, v25, v26, v27, v28, v29, v30, v31, v32, v33, v34]))] [.ref qm, .int iA] (vp_Si (fun r => (r = 0))) := by
  refine enR RX6 (by decide) rfl (Nat.le_of_ble_eq_true rfl) (fun p e s m below meth c ls hx hb hml hown hts hr hlocks hP hN hl => ?_)
  have hK := hN.1
  have hl : lv_has ls 4 [(0, .ref qm), (1, .int iA)] := hl
  refine lv_iconst (v := 0) hx hb dX6_valueOf_0 (by decide) ?_
  refine lv_istore_n (lv' := [(2, .int 0), (0, .ref qm), (1, .int iA)]) hx hb dX6_valueOf_1 rfl hl (by decide) rfl (fun ls hl => ?_)
  refine lv_iconst (v := 0) hx hb dX6_valueOf_2 (by decide) ?_
  refine lv_istore_n (lv' := [(3, .int 0), (2, .int 0), (0, .ref qm), (1, .int iA)]) hx hb dX6_valueOf_3 rfl hl (by decide) rfl (fun ls hl => ?_)
  refine lv_iload_n hx hb dX6_valueOf_4 rfl (lv_at hl 0 rfl) ?_
  refine lv_aload_n hx hb dX6_valueOf_5 rfl (lv_at hl 2 rfl) ?_
  refine va_get (D := G) (ci := 5) (v := .int 0) (C := RX6) (T := TX6) (N := 35) hx hb hts iX_X6 hown hK hP 0 rfl rfl 10 (by decide) (hts _ m_t860) (fun _ h9 => h9) rfl dX6_valueOf_6 ?_
  refine lv_icmp_ge (tgt := 36) hx hb dX6_valueOf_9 (by decide) (fun _ => ?_) (fun h9 => absurd (by decide) h9)
  refine lv_iload_n hx hb dX6_valueOf_36 rfl (lv_at hl 1 rfl) ?_
  exact endR hx hb hr hlocks rfl rfl dX6_valueOf_37
set_option maxHeartbeats 4000000 in
set_option maxRecDepth 100000 in
theorem c_X6_valueNow (l : Launch) (G : va_G) (cy : Nat → ClassId) (qm : Nat) (v1 : Value) (v2 : Value) (v3 : Value) (v4 : Value) (v5 : Value) (v6 : Value) (v7 : Value) (v8 : Value) (v9 : Value) (v10 : Value) (v11 : Value) (v12 : Value) (v13 : Value) (v14 : Value) (v15 : Value) (v16 : Value) (v17 : Value) (v18 : Value) (v19 : Value) (v20 : Value) (v21 : Value) (v22 : Value) (v23 : Value) (v24 : Value) (v25 : Value) (v26 : Value) (v27 : Value) (v28 : Value) (v29 : Value) (v30 : Value) (v31 : Value) (v32 : Value) (v33 : Value)   : MR l yX6_valueNow cX6_valueNow 1 (some .int) 2 G cy [(qm, .inr (5, [v1, v2, v3, v4, v5, v6, v7, v8, v9, v10, .int 0, v11, .int 0, v12, v13, v14, v15, v16, v17, v18, v19, v20, v21, v22, v23, v24, v25, v26, v27, v28, v29, v30, v31, v32, v33]))] [.ref qm] (vp_Si (fun r => (r = 0))) := by
  refine enR RX6 (by decide) rfl (Nat.le_of_ble_eq_true rfl) (fun p e s m below meth c ls hx hb hml hown hts hr hlocks hP hN hl => ?_)
  have hK := hN.1
  have hl : lv_has ls 1 [(0, .ref qm)] := hl
  refine lv_aload_n hx hb dX6_valueNow_0 rfl (lv_at hl 0 rfl) ?_
  refine lv_iconst (v := 1) hx hb dX6_valueNow_1 (by decide) ?_
  refine lv_aload_n hx hb dX6_valueNow_2 rfl (lv_at hl 0 rfl) ?_
  refine va_get (D := G) (ci := 5) (v := .int 0) (C := RX6) (T := TX6) (N := 35) hx hb hts iX_X6 hown hK hP 0 rfl rfl 12 (by decide) (hts _ m_t862) (fun _ h9 => h9) rfl dX6_valueNow_3 ?_
  refine lv_ishl hx hb dX6_valueNow_6 ?_
  refine lv_seti (v := 1) (by decide) ?_
  refine lv_iconst (v := 1) hx hb dX6_valueNow_7 (by decide) ?_
  refine lv_isub hx hb dX6_valueNow_8 ?_
  refine lv_seti (v := 0) (by decide) ?_
  refine kRi (rV (As := [.int 0]) (rest := []) (b := qm) ⟨hx, hb, hml, hown, hts⟩ (c_X6_valueOf l G cy qm v1 v2 v3 v4 v5 v6 v7 v8 v9 v10 v11 (.int 0) v12 v13 v14 v15 v16 v17 v18 v19 v20 v21 v22 v23 v24 v25 v26 v27 v28 v29 v30 v31 v32 v33 0) L_X6_266 (preRV (q := (RX6, TX6, 35)) hN hP [0] rfl 0 5 rfl rfl) rfl ⟨Nat.le_of_ble_eq_true rfl, Nat.le_of_ble_eq_true rfl⟩ hl.1 (Nat.le_of_ble_eq_true rfl) dX6_valueNow_9 ⟨Nat.le_of_ble_eq_true rfl, Nat.le_of_ble_eq_true rfl⟩) (fun r_1 h_2 => ?_)
  subst h_2
  exact endR hx hb hr hlocks rfl rfl dX6_valueNow_12
set_option maxHeartbeats 4000000 in
set_option maxRecDepth 100000 in
theorem c_X6_lostBy (l : Launch) (G : va_G) (cy : Nat → ClassId) (qm : Nat) (v1 : Value) (v2 : Value) (v3 : Value) (v4 : Value) (v5 : Value) (v6 : Value) (v7 : Value) (v8 : Value) (v9 : Value) (v10 : Value) (v11 : Value) (v12 : Value) (v13 : Value) (v14 : Value) (v15 : Value) (v16 : Value) (v17 : Value) (v18 : Value) (v19 : Value) (v20 : Value) (v21 : Value) (v22 : Value) (v23 : Value) (v24 : Value) (v25 : Value) (v26 : Value) (v27 : Value) (v28 : Value) (v29 : Value) (v30 : Value) (v31 : Value) (v32 : Value) (v33 : Value) (v34 : Value) (iA : Int32) (iB : Int32)   : MR l yX6_lostBy cX6_lostBy 5 (some .int) 1 G cy [(qm, .inr (5, [v1, v2, v3, v4, v5, v6, v7, v8, v9, v10, .int 0, v11, v12, v13, v14, v15, v16, v17, v18, v19, v20, v21, v22, v23, v24, v25, v26, v27, v28, v29, v30, v31, v32, v33, v34]))] [.ref qm, .int iA, .int iB] (vp_Si (fun r => (r = 0))) := by
  refine enR RX6 (by decide) rfl (Nat.le_of_ble_eq_true rfl) (fun p e s m below meth c ls hx hb hml hown hts hr hlocks hP hN hl => ?_)
  have hK := hN.1
  have hl : lv_has ls 5 [(0, .ref qm), (1, .int iA), (2, .int iB)] := hl
  refine lv_iconst (v := 0) hx hb dX6_lostBy_0 (by decide) ?_
  refine lv_istore_n (lv' := [(3, .int 0), (0, .ref qm), (1, .int iA), (2, .int iB)]) hx hb dX6_lostBy_1 rfl hl (by decide) rfl (fun ls hl => ?_)
  refine lv_iconst (v := 0) hx hb dX6_lostBy_2 (by decide) ?_
  refine lv_istore (lv' := [(4, .int 0), (3, .int 0), (0, .ref qm), (1, .int iA), (2, .int iB)]) hx hb dX6_lostBy_3 hl (by decide) rfl (fun ls hl => ?_)
  refine lv_iload hx hb dX6_lostBy_5 (lv_at hl 0 rfl) ?_
  refine lv_aload_n hx hb dX6_lostBy_7 rfl (lv_at hl 2 rfl) ?_
  refine va_get (D := G) (ci := 5) (v := .int 0) (C := RX6) (T := TX6) (N := 35) hx hb hts iX_X6 hown hK hP 0 rfl rfl 10 (by decide) (hts _ m_t860) (fun _ h9 => h9) rfl dX6_lostBy_8 ?_
  refine lv_icmp_ge (tgt := 42) hx hb dX6_lostBy_11 (by decide) (fun _ => ?_) (fun h9 => absurd (by decide) h9)
  refine lv_iload_n hx hb dX6_lostBy_42 rfl (lv_at hl 1 rfl) ?_
  exact endR hx hb hr hlocks rfl rfl dX6_lostBy_43
set_option maxHeartbeats 4000000 in
set_option maxRecDepth 100000 in
theorem c_X6_end (l : Launch) (G : va_G) (cy : Nat → ClassId) (sz : Nat) (qm : Nat) (v1 : Value) (v2 : Value) (v3 : Value) (v4 : Value) (v5 : Value) (v6 : Value) (v7 : Value) (v8 : Value) (v9 : Value) (v10 : Value) (v11 : Value) (v12 : Value) (v13 : Value) (v14 : Value) (v15 : Value) (v16 : Value) (v17 : Value) (v18 : Value) (v19 : Value) (v20 : Value) (v21 : Value) (v22 : Value) (v23 : Value) (v24 : Value) (v25 : Value) (v26 : Value) (v27 : Value) (v28 : Value) (v29 : Value) (v30 : Value) (v31 : Value) (v32 : Value) (v33 : Value)   : MW l yX6_end cX6_end 5 (some .int) 1 0 0 G cy [(qm, .inr (5, [v1, v2, v3, v4, v5, v6, v7, v8, v9, v10, v11, v12, .int 0, v13, v14, .int 0, v15, v16, v17, v18, v19, v20, v21, v22, v23, v24, v25, v26, v27, v28, v29, v30, v31, v32, v33]))] sz [.ref qm] (Wi G (fun r u => u = [] ∧ ((r = 0)))) := by
  refine enW RX6 (by decide) rfl (Nat.le_of_ble_eq_true rfl) (fun p e s m below meth c ls A hx hb hml hown hts hr hlocks hP hN hl hin hD hA hS => ?_)
  have hin : meth.name = _ := hin
  have hK := hN.1
  have hl : lv_has ls 5 [(0, .ref qm)] := hl
  refine lv_iconst (v := 0) hx hb dX6_end_0 (by decide) ?_
  refine lv_istore_n (lv' := [(1, .int 0), (0, .ref qm)]) hx hb dX6_end_1 rfl hl (by decide) rfl (fun ls hl => ?_)
  refine lv_iconst (v := 0) hx hb dX6_end_2 (by decide) ?_
  refine lv_istore_n (lv' := [(2, .int 0), (1, .int 0), (0, .ref qm)]) hx hb dX6_end_3 rfl hl (by decide) rfl (fun ls hl => ?_)
  refine lv_iload_n hx hb dX6_end_4 rfl (lv_at hl 0 rfl) ?_
  refine lv_aload_n hx hb dX6_end_5 rfl (lv_at hl 2 rfl) ?_
  refine va_get (D := G) (ci := 5) (v := .int 0) (C := RX6) (T := TX6) (N := 35) hx hb hts iX_X6 hown hK hP 0 rfl rfl 12 (by decide) (hts _ m_t862) (fun _ h9 => h9) rfl dX6_end_6 ?_
  refine lv_icmp_ge (tgt := 145) hx hb dX6_end_9 (by decide) (fun _ => ?_) (fun h9 => absurd (by decide) h9)
  refine lv_aload_n hx hb dX6_end_145 rfl (lv_at hl 2 rfl) ?_
  refine lv_dup hx hb dX6_end_146 rfl ?_
  refine va_get (D := G) (ci := 5) (v := .int 0) (C := RX6) (T := TX6) (N := 35) hx hb hts iX_X6 hown hK hP 0 rfl rfl 15 (by decide) (hts _ m_t865) (fun _ h9 => h9) rfl dX6_end_147 ?_
  refine lv_iconst (v := 1) hx hb dX6_end_150 (by decide) ?_
  refine lv_iadd hx hb dX6_end_151 ?_
  refine lv_seti (v := 1) (by decide) ?_
  refine va_put (D := G) (ci := 5) (v := .int 1) (ty := .int) (C := RX6) (T := TX6) (N := 35) hx hb hts iX_X6 tyX6 tyX6_ok nmX6 hown hK hP hD hS 0 rfl rfl 15 (by decide) (hts _ m_t865) (fun _ h9 => h9) rfl (by decide +kernel) rfl rfl (Nat.le_of_ble_eq_true rfl) dX6_end_152 (fun H locs hP hD hS => ?_)
  have hP : va_P G CL [(qm, .inr (5, [v1, v2, v3, v4, v5, v6, v7, v8, v9, v10, v11, v12, .int 0, v13, v14, .int 1, v15, v16, v17, v18, v19, v20, v21, v22, v23, v24, v25, v26, v27, v28, v29, v30, v31, v32, v33]))] H := hP
  have hD : va_D A [(qm, .inr (5, [v1, v2, v3, v4, v5, v6, v7, v8, v9, v10, v11, v12, .int 0, v13, v14, .int 1, v15, v16, v17, v18, v19, v20, v21, v22, v23, v24, v25, v26, v27, v28, v29, v30, v31, v32, v33]))] := hD
  refine lv_iload_n hx hb dX6_end_155 rfl (lv_at hl 1 rfl) ?_
  exact endW (u := []) hx hb hr hlocks rfl va_P0 va_D0 hS ⟨rfl, rfl⟩ dX6_end_156
set_option maxHeartbeats 4000000 in
set_option maxRecDepth 100000 in
theorem c_X6_newBook (l : Launch) (G : va_G) (cy : Nat → ClassId) (sz : Nat) (qm : Nat) (v1 : Value) (v2 : Value) (v3 : Value) (v4 : Value) (v5 : Value) (v6 : Value) (v7 : Value) (v8 : Value) (v9 : Value) (v10 : Value) (qmB : Nat) (v11 : Value) (v12 : Value) (qmK : Nat) (v13 : Value) (v14 : Value) (v15 : Value) (v16 : Value) (v17 : Value) (v18 : Value) (v19 : Value) (v20 : Value) (v21 : Value) (v22 : Value) (v23 : Value) (v24 : Value) (v25 : Value) (v26 : Value) (v27 : Value) (v28 : Value) (v29 : Value) (v30 : Value) (v31 : Value) (v32 : Value) (rB : Nat → Nat) (rK : Nat → Nat) (iA : Int32)   : MW l yX6_newBook cX6_newBook 3 none 1 0 0 G cy [(qm, .inr (5, [v1, v2, v3, v4, v5, v6, v7, v8, v9, v10, .int 0, .ref qmB, v11, v12, .ref qmK, v13, v14, v15, v16, v17, v18, v19, v20, v21, v22, v23, v24, v25, v26, v27, v28, v29, v30, v31, v32])), (qmB, .inl (cy 3, 8, .inr (.inr (.inr (.inr (fun i => if i < 8 then some (rB i) else none)))))), (rB 0, .inl (cy 0, 4, .inl (fun _ => 0))), (qmK, .inl (cy 3, 8, .inr (.inr (.inr (.inr (fun i => if i < 8 then some (rK i) else none)))))), (rK 0, .inl (cy 0, 8, .inl (fun _ => 0))), (rK 1, .inl (cy 0, 8, .inl (fun _ => 0))), (rK 2, .inl (cy 0, 8, .inl (fun _ => 0))), (rK 3, .inl (cy 0, 8, .inl (fun _ => 0))), (rK 4, .inl (cy 0, 8, .inl (fun _ => 0))), (rK 5, .inl (cy 0, 8, .inl (fun _ => 0))), (rK 6, .inl (cy 0, 8, .inl (fun _ => 0))), (rK 7, .inl (cy 0, 8, .inl (fun _ => 0)))] sz [.ref qm, .int iA] (Wv G (fun u => u = [])) := by
  refine enW RX6 (by decide) rfl (Nat.le_of_ble_eq_true rfl) (fun p e s m below meth c ls A hx hb hml hown hts hr hlocks hP hN hl hin hD hA hS => ?_)
  have hin : meth.name = _ := hin
  have hK := hN.1
  have hl : lv_has ls 3 [(0, .ref qm), (1, .int iA)] := hl
  refine lv_aload_n hx hb dX6_newBook_0 rfl (lv_at hl 0 rfl) ?_
  refine va_get (D := G) (ci := 5) (v := .ref qmB) (C := RX6) (T := TX6) (N := 35) hx hb hts iX_X6 hown hK hP 0 rfl rfl 11 (by decide) (hts _ m_t861) (fun _ h9 => h9) rfl dX6_newBook_1 ?_
  refine lv_aload_n hx hb dX6_newBook_4 rfl (lv_at hl 0 rfl) ?_
  refine va_get (D := G) (ci := 5) (v := .int 0) (C := RX6) (T := TX6) (N := 35) hx hb hts iX_X6 hown hK hP 0 rfl rfl 10 (by decide) (hts _ m_t860) (fun _ h9 => h9) rfl dX6_newBook_5 ?_
  refine va_alda hx hb hK hP 1 3 rfl rfl (in_c rfl) dX6_newBook_8 ?_
  refine lv_setv (v := .ref (rB 0)) (rfl) ?_
  refine lv_iconst (v := 0) hx hb dX6_newBook_9 (by decide) ?_
  refine lv_iload_n hx hb dX6_newBook_10 rfl (lv_at hl 1 rfl) ?_
  refine va_iast hx hb hK hP hD hS 2 0 rfl rfl (in_c rfl) dX6_newBook_11 (fun H locs hP hD hS => ?_)
  have hP : va_P G CL [(qm, .inr (5, [v1, v2, v3, v4, v5, v6, v7, v8, v9, v10, .int 0, .ref qmB, v11, v12, .ref qmK, v13, v14, v15, v16, v17, v18, v19, v20, v21, v22, v23, v24, v25, v26, v27, v28, v29, v30, v31, v32])), (qmB, .inl (cy 3, 8, .inr (.inr (.inr (.inr (fun i => if i < 8 then some (rB i) else none)))))), (rB 0, .inl (cy 0, 4, .inl (upd (fun _ => 0) 0 iA))), (qmK, .inl (cy 3, 8, .inr (.inr (.inr (.inr (fun i => if i < 8 then some (rK i) else none)))))), (rK 0, .inl (cy 0, 8, .inl (fun _ => 0))), (rK 1, .inl (cy 0, 8, .inl (fun _ => 0))), (rK 2, .inl (cy 0, 8, .inl (fun _ => 0))), (rK 3, .inl (cy 0, 8, .inl (fun _ => 0))), (rK 4, .inl (cy 0, 8, .inl (fun _ => 0))), (rK 5, .inl (cy 0, 8, .inl (fun _ => 0))), (rK 6, .inl (cy 0, 8, .inl (fun _ => 0))), (rK 7, .inl (cy 0, 8, .inl (fun _ => 0)))] H := hP
  have hD : va_D A [(qm, .inr (5, [v1, v2, v3, v4, v5, v6, v7, v8, v9, v10, .int 0, .ref qmB, v11, v12, .ref qmK, v13, v14, v15, v16, v17, v18, v19, v20, v21, v22, v23, v24, v25, v26, v27, v28, v29, v30, v31, v32])), (qmB, .inl (cy 3, 8, .inr (.inr (.inr (.inr (fun i => if i < 8 then some (rB i) else none)))))), (rB 0, .inl (cy 0, 4, .inl (upd (fun _ => 0) 0 iA))), (qmK, .inl (cy 3, 8, .inr (.inr (.inr (.inr (fun i => if i < 8 then some (rK i) else none)))))), (rK 0, .inl (cy 0, 8, .inl (fun _ => 0))), (rK 1, .inl (cy 0, 8, .inl (fun _ => 0))), (rK 2, .inl (cy 0, 8, .inl (fun _ => 0))), (rK 3, .inl (cy 0, 8, .inl (fun _ => 0))), (rK 4, .inl (cy 0, 8, .inl (fun _ => 0))), (rK 5, .inl (cy 0, 8, .inl (fun _ => 0))), (rK 6, .inl (cy 0, 8, .inl (fun _ => 0))), (rK 7, .inl (cy 0, 8, .inl (fun _ => 0)))] := hD
  refine lv_aload_n hx hb dX6_newBook_12 rfl (lv_at hl 0 rfl) ?_
  refine va_get (D := G) (ci := 5) (v := .ref qmB) (C := RX6) (T := TX6) (N := 35) hx hb hts iX_X6 hown hK hP 0 rfl rfl 11 (by decide) (hts _ m_t861) (fun _ h9 => h9) rfl dX6_newBook_13 ?_
  refine lv_aload_n hx hb dX6_newBook_16 rfl (lv_at hl 0 rfl) ?_
  refine va_get (D := G) (ci := 5) (v := .int 0) (C := RX6) (T := TX6) (N := 35) hx hb hts iX_X6 hown hK hP 0 rfl rfl 10 (by decide) (hts _ m_t860) (fun _ h9 => h9) rfl dX6_newBook_17 ?_
  refine va_alda hx hb hK hP 1 3 rfl rfl (in_c rfl) dX6_newBook_20 ?_
  refine lv_setv (v := .ref (rB 0)) (rfl) ?_
  refine lv_iconst (v := 1) hx hb dX6_newBook_21 (by decide) ?_
  refine lv_iconst (v := 0) hx hb dX6_newBook_22 (by decide) ?_
  refine va_iast hx hb hK hP hD hS 2 0 rfl rfl (in_c rfl) dX6_newBook_23 (fun H locs hP hD hS => ?_)
  have hP : va_P G CL [(qm, .inr (5, [v1, v2, v3, v4, v5, v6, v7, v8, v9, v10, .int 0, .ref qmB, v11, v12, .ref qmK, v13, v14, v15, v16, v17, v18, v19, v20, v21, v22, v23, v24, v25, v26, v27, v28, v29, v30, v31, v32])), (qmB, .inl (cy 3, 8, .inr (.inr (.inr (.inr (fun i => if i < 8 then some (rB i) else none)))))), (rB 0, .inl (cy 0, 4, .inl (upd (upd (fun _ => 0) 0 iA) 1 0))), (qmK, .inl (cy 3, 8, .inr (.inr (.inr (.inr (fun i => if i < 8 then some (rK i) else none)))))), (rK 0, .inl (cy 0, 8, .inl (fun _ => 0))), (rK 1, .inl (cy 0, 8, .inl (fun _ => 0))), (rK 2, .inl (cy 0, 8, .inl (fun _ => 0))), (rK 3, .inl (cy 0, 8, .inl (fun _ => 0))), (rK 4, .inl (cy 0, 8, .inl (fun _ => 0))), (rK 5, .inl (cy 0, 8, .inl (fun _ => 0))), (rK 6, .inl (cy 0, 8, .inl (fun _ => 0))), (rK 7, .inl (cy 0, 8, .inl (fun _ => 0)))] H := hP
  have hD : va_D A [(qm, .inr (5, [v1, v2, v3, v4, v5, v6, v7, v8, v9, v10, .int 0, .ref qmB, v11, v12, .ref qmK, v13, v14, v15, v16, v17, v18, v19, v20, v21, v22, v23, v24, v25, v26, v27, v28, v29, v30, v31, v32])), (qmB, .inl (cy 3, 8, .inr (.inr (.inr (.inr (fun i => if i < 8 then some (rB i) else none)))))), (rB 0, .inl (cy 0, 4, .inl (upd (upd (fun _ => 0) 0 iA) 1 0))), (qmK, .inl (cy 3, 8, .inr (.inr (.inr (.inr (fun i => if i < 8 then some (rK i) else none)))))), (rK 0, .inl (cy 0, 8, .inl (fun _ => 0))), (rK 1, .inl (cy 0, 8, .inl (fun _ => 0))), (rK 2, .inl (cy 0, 8, .inl (fun _ => 0))), (rK 3, .inl (cy 0, 8, .inl (fun _ => 0))), (rK 4, .inl (cy 0, 8, .inl (fun _ => 0))), (rK 5, .inl (cy 0, 8, .inl (fun _ => 0))), (rK 6, .inl (cy 0, 8, .inl (fun _ => 0))), (rK 7, .inl (cy 0, 8, .inl (fun _ => 0)))] := hD
  refine lv_aload_n hx hb dX6_newBook_24 rfl (lv_at hl 0 rfl) ?_
  refine va_get (D := G) (ci := 5) (v := .ref qmB) (C := RX6) (T := TX6) (N := 35) hx hb hts iX_X6 hown hK hP 0 rfl rfl 11 (by decide) (hts _ m_t861) (fun _ h9 => h9) rfl dX6_newBook_25 ?_
  refine lv_aload_n hx hb dX6_newBook_28 rfl (lv_at hl 0 rfl) ?_
  refine va_get (D := G) (ci := 5) (v := .int 0) (C := RX6) (T := TX6) (N := 35) hx hb hts iX_X6 hown hK hP 0 rfl rfl 10 (by decide) (hts _ m_t860) (fun _ h9 => h9) rfl dX6_newBook_29 ?_
  refine va_alda hx hb hK hP 1 3 rfl rfl (in_c rfl) dX6_newBook_32 ?_
  refine lv_setv (v := .ref (rB 0)) (rfl) ?_
  refine lv_iconst (v := 2) hx hb dX6_newBook_33 (by decide) ?_
  refine lv_sipush (v := 1000) hx hb dX6_newBook_34 (by decide) ?_
  refine va_iast hx hb hK hP hD hS 2 0 rfl rfl (in_c rfl) dX6_newBook_37 (fun H locs hP hD hS => ?_)
  have hP : va_P G CL [(qm, .inr (5, [v1, v2, v3, v4, v5, v6, v7, v8, v9, v10, .int 0, .ref qmB, v11, v12, .ref qmK, v13, v14, v15, v16, v17, v18, v19, v20, v21, v22, v23, v24, v25, v26, v27, v28, v29, v30, v31, v32])), (qmB, .inl (cy 3, 8, .inr (.inr (.inr (.inr (fun i => if i < 8 then some (rB i) else none)))))), (rB 0, .inl (cy 0, 4, .inl (upd (upd (upd (fun _ => 0) 0 iA) 1 0) 2 1000))), (qmK, .inl (cy 3, 8, .inr (.inr (.inr (.inr (fun i => if i < 8 then some (rK i) else none)))))), (rK 0, .inl (cy 0, 8, .inl (fun _ => 0))), (rK 1, .inl (cy 0, 8, .inl (fun _ => 0))), (rK 2, .inl (cy 0, 8, .inl (fun _ => 0))), (rK 3, .inl (cy 0, 8, .inl (fun _ => 0))), (rK 4, .inl (cy 0, 8, .inl (fun _ => 0))), (rK 5, .inl (cy 0, 8, .inl (fun _ => 0))), (rK 6, .inl (cy 0, 8, .inl (fun _ => 0))), (rK 7, .inl (cy 0, 8, .inl (fun _ => 0)))] H := hP
  have hD : va_D A [(qm, .inr (5, [v1, v2, v3, v4, v5, v6, v7, v8, v9, v10, .int 0, .ref qmB, v11, v12, .ref qmK, v13, v14, v15, v16, v17, v18, v19, v20, v21, v22, v23, v24, v25, v26, v27, v28, v29, v30, v31, v32])), (qmB, .inl (cy 3, 8, .inr (.inr (.inr (.inr (fun i => if i < 8 then some (rB i) else none)))))), (rB 0, .inl (cy 0, 4, .inl (upd (upd (upd (fun _ => 0) 0 iA) 1 0) 2 1000))), (qmK, .inl (cy 3, 8, .inr (.inr (.inr (.inr (fun i => if i < 8 then some (rK i) else none)))))), (rK 0, .inl (cy 0, 8, .inl (fun _ => 0))), (rK 1, .inl (cy 0, 8, .inl (fun _ => 0))), (rK 2, .inl (cy 0, 8, .inl (fun _ => 0))), (rK 3, .inl (cy 0, 8, .inl (fun _ => 0))), (rK 4, .inl (cy 0, 8, .inl (fun _ => 0))), (rK 5, .inl (cy 0, 8, .inl (fun _ => 0))), (rK 6, .inl (cy 0, 8, .inl (fun _ => 0))), (rK 7, .inl (cy 0, 8, .inl (fun _ => 0)))] := hD
  refine lv_aload_n hx hb dX6_newBook_38 rfl (lv_at hl 0 rfl) ?_
  refine va_get (D := G) (ci := 5) (v := .ref qmB) (C := RX6) (T := TX6) (N := 35) hx hb hts iX_X6 hown hK hP 0 rfl rfl 11 (by decide) (hts _ m_t861) (fun _ h9 => h9) rfl dX6_newBook_39 ?_
  refine lv_aload_n hx hb dX6_newBook_42 rfl (lv_at hl 0 rfl) ?_
  refine va_get (D := G) (ci := 5) (v := .int 0) (C := RX6) (T := TX6) (N := 35) hx hb hts iX_X6 hown hK hP 0 rfl rfl 10 (by decide) (hts _ m_t860) (fun _ h9 => h9) rfl dX6_newBook_43 ?_
  refine va_alda hx hb hK hP 1 3 rfl rfl (in_c rfl) dX6_newBook_46 ?_
  refine lv_setv (v := .ref (rB 0)) (rfl) ?_
  refine lv_iconst (v := 3) hx hb dX6_newBook_47 (by decide) ?_
  refine lv_iconst (v := 0) hx hb dX6_newBook_48 (by decide) ?_
  refine va_iast hx hb hK hP hD hS 2 0 rfl rfl (in_c rfl) dX6_newBook_49 (fun H locs hP hD hS => ?_)
  have hP : va_P G CL [(qm, .inr (5, [v1, v2, v3, v4, v5, v6, v7, v8, v9, v10, .int 0, .ref qmB, v11, v12, .ref qmK, v13, v14, v15, v16, v17, v18, v19, v20, v21, v22, v23, v24, v25, v26, v27, v28, v29, v30, v31, v32])), (qmB, .inl (cy 3, 8, .inr (.inr (.inr (.inr (fun i => if i < 8 then some (rB i) else none)))))), (rB 0, .inl (cy 0, 4, .inl (upd (upd (upd (upd (fun _ => 0) 0 iA) 1 0) 2 1000) 3 0))), (qmK, .inl (cy 3, 8, .inr (.inr (.inr (.inr (fun i => if i < 8 then some (rK i) else none)))))), (rK 0, .inl (cy 0, 8, .inl (fun _ => 0))), (rK 1, .inl (cy 0, 8, .inl (fun _ => 0))), (rK 2, .inl (cy 0, 8, .inl (fun _ => 0))), (rK 3, .inl (cy 0, 8, .inl (fun _ => 0))), (rK 4, .inl (cy 0, 8, .inl (fun _ => 0))), (rK 5, .inl (cy 0, 8, .inl (fun _ => 0))), (rK 6, .inl (cy 0, 8, .inl (fun _ => 0))), (rK 7, .inl (cy 0, 8, .inl (fun _ => 0)))] H := hP
  have hD : va_D A [(qm, .inr (5, [v1, v2, v3, v4, v5, v6, v7, v8, v9, v10, .int 0, .ref qmB, v11, v12, .ref qmK, v13, v14, v15, v16, v17, v18, v19, v20, v21, v22, v23, v24, v25, v26, v27, v28, v29, v30, v31, v32])), (qmB, .inl (cy 3, 8, .inr (.inr (.inr (.inr (fun i => if i < 8 then some (rB i) else none)))))), (rB 0, .inl (cy 0, 4, .inl (upd (upd (upd (upd (fun _ => 0) 0 iA) 1 0) 2 1000) 3 0))), (qmK, .inl (cy 3, 8, .inr (.inr (.inr (.inr (fun i => if i < 8 then some (rK i) else none)))))), (rK 0, .inl (cy 0, 8, .inl (fun _ => 0))), (rK 1, .inl (cy 0, 8, .inl (fun _ => 0))), (rK 2, .inl (cy 0, 8, .inl (fun _ => 0))), (rK 3, .inl (cy 0, 8, .inl (fun _ => 0))), (rK 4, .inl (cy 0, 8, .inl (fun _ => 0))), (rK 5, .inl (cy 0, 8, .inl (fun _ => 0))), (rK 6, .inl (cy 0, 8, .inl (fun _ => 0))), (rK 7, .inl (cy 0, 8, .inl (fun _ => 0)))] := hD
  refine lv_iconst (v := 0) hx hb dX6_newBook_50 (by decide) ?_
  refine lv_istore_n (lv' := [(2, .int 0), (0, .ref qm), (1, .int iA)]) hx hb dX6_newBook_51 rfl hl (by decide) rfl (fun ls hl => ?_)
  refine lv_iload_n hx hb dX6_newBook_52 rfl (lv_at hl 0 rfl) ?_
  refine lv_bipush (v := 8) hx hb dX6_newBook_53 (by decide) ?_
  refine lv_icmp_ge (tgt := 76) hx hb dX6_newBook_55 (by decide) (fun h9 => absurd h9 (by decide)) (fun _ => ?_)
  refine lv_aload_n hx hb dX6_newBook_58 rfl (lv_at hl 1 rfl) ?_
  refine va_get (D := G) (ci := 5) (v := .ref qmK) (C := RX6) (T := TX6) (N := 35) hx hb hts iX_X6 hown hK hP 0 rfl rfl 14 (by decide) (hts _ m_t864) (fun _ h9 => h9) rfl dX6_newBook_59 ?_
  refine lv_iload_n hx hb dX6_newBook_62 rfl (lv_at hl 0 rfl) ?_
  refine va_alda hx hb hK hP 3 3 rfl rfl (in_c rfl) dX6_newBook_63 ?_
  refine lv_setv (v := .ref (rK 0)) (rfl) ?_
  refine lv_aload_n hx hb dX6_newBook_64 rfl (lv_at hl 1 rfl) ?_
  refine va_get (D := G) (ci := 5) (v := .int 0) (C := RX6) (T := TX6) (N := 35) hx hb hts iX_X6 hown hK hP 0 rfl rfl 10 (by decide) (hts _ m_t860) (fun _ h9 => h9) rfl dX6_newBook_65 ?_
  refine lv_iconst (v := 0) hx hb dX6_newBook_68 (by decide) ?_
  refine va_iast hx hb hK hP hD hS 4 0 rfl rfl (in_c rfl) dX6_newBook_69 (fun H locs hP hD hS => ?_)
  have hP : va_P G CL [(qm, .inr (5, [v1, v2, v3, v4, v5, v6, v7, v8, v9, v10, .int 0, .ref qmB, v11, v12, .ref qmK, v13, v14, v15, v16, v17, v18, v19, v20, v21, v22, v23, v24, v25, v26, v27, v28, v29, v30, v31, v32])), (qmB, .inl (cy 3, 8, .inr (.inr (.inr (.inr (fun i => if i < 8 then some (rB i) else none)))))), (rB 0, .inl (cy 0, 4, .inl (upd (upd (upd (upd (fun _ => 0) 0 iA) 1 0) 2 1000) 3 0))), (qmK, .inl (cy 3, 8, .inr (.inr (.inr (.inr (fun i => if i < 8 then some (rK i) else none)))))), (rK 0, .inl (cy 0, 8, .inl (upd (fun _ => 0) 0 0))), (rK 1, .inl (cy 0, 8, .inl (fun _ => 0))), (rK 2, .inl (cy 0, 8, .inl (fun _ => 0))), (rK 3, .inl (cy 0, 8, .inl (fun _ => 0))), (rK 4, .inl (cy 0, 8, .inl (fun _ => 0))), (rK 5, .inl (cy 0, 8, .inl (fun _ => 0))), (rK 6, .inl (cy 0, 8, .inl (fun _ => 0))), (rK 7, .inl (cy 0, 8, .inl (fun _ => 0)))] H := hP
  have hD : va_D A [(qm, .inr (5, [v1, v2, v3, v4, v5, v6, v7, v8, v9, v10, .int 0, .ref qmB, v11, v12, .ref qmK, v13, v14, v15, v16, v17, v18, v19, v20, v21, v22, v23, v24, v25, v26, v27, v28, v29, v30, v31, v32])), (qmB, .inl (cy 3, 8, .inr (.inr (.inr (.inr (fun i => if i < 8 then some (rB i) else none)))))), (rB 0, .inl (cy 0, 4, .inl (upd (upd (upd (upd (fun _ => 0) 0 iA) 1 0) 2 1000) 3 0))), (qmK, .inl (cy 3, 8, .inr (.inr (.inr (.inr (fun i => if i < 8 then some (rK i) else none)))))), (rK 0, .inl (cy 0, 8, .inl (upd (fun _ => 0) 0 0))), (rK 1, .inl (cy 0, 8, .inl (fun _ => 0))), (rK 2, .inl (cy 0, 8, .inl (fun _ => 0))), (rK 3, .inl (cy 0, 8, .inl (fun _ => 0))), (rK 4, .inl (cy 0, 8, .inl (fun _ => 0))), (rK 5, .inl (cy 0, 8, .inl (fun _ => 0))), (rK 6, .inl (cy 0, 8, .inl (fun _ => 0))), (rK 7, .inl (cy 0, 8, .inl (fun _ => 0)))] := hD
  refine lv_iinc (v := 1) (lv' := [(2, .int 1), (0, .ref qm), (1, .int iA)]) hx hb dX6_newBook_70 hl (k := 0) rfl (by decide) (by decide) rfl (fun ls hl => ?_)
  refine lv_goto (tgt := 52) hx hb dX6_newBook_73 (by decide) ?_
  refine lv_iload_n hx hb dX6_newBook_52 rfl (lv_at hl 0 rfl) ?_
  refine lv_bipush (v := 8) hx hb dX6_newBook_53 (by decide) ?_
  refine lv_icmp_ge (tgt := 76) hx hb dX6_newBook_55 (by decide) (fun h9 => absurd h9 (by decide)) (fun _ => ?_)
  refine lv_aload_n hx hb dX6_newBook_58 rfl (lv_at hl 1 rfl) ?_
  refine va_get (D := G) (ci := 5) (v := .ref qmK) (C := RX6) (T := TX6) (N := 35) hx hb hts iX_X6 hown hK hP 0 rfl rfl 14 (by decide) (hts _ m_t864) (fun _ h9 => h9) rfl dX6_newBook_59 ?_
  refine lv_iload_n hx hb dX6_newBook_62 rfl (lv_at hl 0 rfl) ?_
  refine va_alda hx hb hK hP 3 3 rfl rfl (in_c rfl) dX6_newBook_63 ?_
  refine lv_setv (v := .ref (rK 1)) (rfl) ?_
  refine lv_aload_n hx hb dX6_newBook_64 rfl (lv_at hl 1 rfl) ?_
  refine va_get (D := G) (ci := 5) (v := .int 0) (C := RX6) (T := TX6) (N := 35) hx hb hts iX_X6 hown hK hP 0 rfl rfl 10 (by decide) (hts _ m_t860) (fun _ h9 => h9) rfl dX6_newBook_65 ?_
  refine lv_iconst (v := 0) hx hb dX6_newBook_68 (by decide) ?_
  refine va_iast hx hb hK hP hD hS 5 0 rfl rfl (in_c rfl) dX6_newBook_69 (fun H locs hP hD hS => ?_)
  have hP : va_P G CL [(qm, .inr (5, [v1, v2, v3, v4, v5, v6, v7, v8, v9, v10, .int 0, .ref qmB, v11, v12, .ref qmK, v13, v14, v15, v16, v17, v18, v19, v20, v21, v22, v23, v24, v25, v26, v27, v28, v29, v30, v31, v32])), (qmB, .inl (cy 3, 8, .inr (.inr (.inr (.inr (fun i => if i < 8 then some (rB i) else none)))))), (rB 0, .inl (cy 0, 4, .inl (upd (upd (upd (upd (fun _ => 0) 0 iA) 1 0) 2 1000) 3 0))), (qmK, .inl (cy 3, 8, .inr (.inr (.inr (.inr (fun i => if i < 8 then some (rK i) else none)))))), (rK 0, .inl (cy 0, 8, .inl (upd (fun _ => 0) 0 0))), (rK 1, .inl (cy 0, 8, .inl (upd (fun _ => 0) 0 0))), (rK 2, .inl (cy 0, 8, .inl (fun _ => 0))), (rK 3, .inl (cy 0, 8, .inl (fun _ => 0))), (rK 4, .inl (cy 0, 8, .inl (fun _ => 0))), (rK 5, .inl (cy 0, 8, .inl (fun _ => 0))), (rK 6, .inl (cy 0, 8, .inl (fun _ => 0))), (rK 7, .inl (cy 0, 8, .inl (fun _ => 0)))] H := hP
  have hD : va_D A [(qm, .inr (5, [v1, v2, v3, v4, v5, v6, v7, v8, v9, v10, .int 0, .ref qmB, v11, v12, .ref qmK, v13, v14, v15, v16, v17, v18, v19, v20, v21, v22, v23, v24, v25, v26, v27, v28, v29, v30, v31, v32])), (qmB, .inl (cy 3, 8, .inr (.inr (.inr (.inr (fun i => if i < 8 then some (rB i) else none)))))), (rB 0, .inl (cy 0, 4, .inl (upd (upd (upd (upd (fun _ => 0) 0 iA) 1 0) 2 1000) 3 0))), (qmK, .inl (cy 3, 8, .inr (.inr (.inr (.inr (fun i => if i < 8 then some (rK i) else none)))))), (rK 0, .inl (cy 0, 8, .inl (upd (fun _ => 0) 0 0))), (rK 1, .inl (cy 0, 8, .inl (upd (fun _ => 0) 0 0))), (rK 2, .inl (cy 0, 8, .inl (fun _ => 0))), (rK 3, .inl (cy 0, 8, .inl (fun _ => 0))), (rK 4, .inl (cy 0, 8, .inl (fun _ => 0))), (rK 5, .inl (cy 0, 8, .inl (fun _ => 0))), (rK 6, .inl (cy 0, 8, .inl (fun _ => 0))), (rK 7, .inl (cy 0, 8, .inl (fun _ => 0)))] := hD
  refine lv_iinc (v := 2) (lv' := [(2, .int 2), (0, .ref qm), (1, .int iA)]) hx hb dX6_newBook_70 hl (k := 0) rfl (by decide) (by decide) rfl (fun ls hl => ?_)
  refine lv_goto (tgt := 52) hx hb dX6_newBook_73 (by decide) ?_
  refine lv_iload_n hx hb dX6_newBook_52 rfl (lv_at hl 0 rfl) ?_
  refine lv_bipush (v := 8) hx hb dX6_newBook_53 (by decide) ?_
  refine lv_icmp_ge (tgt := 76) hx hb dX6_newBook_55 (by decide) (fun h9 => absurd h9 (by decide)) (fun _ => ?_)
  refine lv_aload_n hx hb dX6_newBook_58 rfl (lv_at hl 1 rfl) ?_
  refine va_get (D := G) (ci := 5) (v := .ref qmK) (C := RX6) (T := TX6) (N := 35) hx hb hts iX_X6 hown hK hP 0 rfl rfl 14 (by decide) (hts _ m_t864) (fun _ h9 => h9) rfl dX6_newBook_59 ?_
  refine lv_iload_n hx hb dX6_newBook_62 rfl (lv_at hl 0 rfl) ?_
  refine va_alda hx hb hK hP 3 3 rfl rfl (in_c rfl) dX6_newBook_63 ?_
  refine lv_setv (v := .ref (rK 2)) (rfl) ?_
  refine lv_aload_n hx hb dX6_newBook_64 rfl (lv_at hl 1 rfl) ?_
  refine va_get (D := G) (ci := 5) (v := .int 0) (C := RX6) (T := TX6) (N := 35) hx hb hts iX_X6 hown hK hP 0 rfl rfl 10 (by decide) (hts _ m_t860) (fun _ h9 => h9) rfl dX6_newBook_65 ?_
  refine lv_iconst (v := 0) hx hb dX6_newBook_68 (by decide) ?_
  refine va_iast hx hb hK hP hD hS 6 0 rfl rfl (in_c rfl) dX6_newBook_69 (fun H locs hP hD hS => ?_)
  have hP : va_P G CL [(qm, .inr (5, [v1, v2, v3, v4, v5, v6, v7, v8, v9, v10, .int 0, .ref qmB, v11, v12, .ref qmK, v13, v14, v15, v16, v17, v18, v19, v20, v21, v22, v23, v24, v25, v26, v27, v28, v29, v30, v31, v32])), (qmB, .inl (cy 3, 8, .inr (.inr (.inr (.inr (fun i => if i < 8 then some (rB i) else none)))))), (rB 0, .inl (cy 0, 4, .inl (upd (upd (upd (upd (fun _ => 0) 0 iA) 1 0) 2 1000) 3 0))), (qmK, .inl (cy 3, 8, .inr (.inr (.inr (.inr (fun i => if i < 8 then some (rK i) else none)))))), (rK 0, .inl (cy 0, 8, .inl (upd (fun _ => 0) 0 0))), (rK 1, .inl (cy 0, 8, .inl (upd (fun _ => 0) 0 0))), (rK 2, .inl (cy 0, 8, .inl (upd (fun _ => 0) 0 0))), (rK 3, .inl (cy 0, 8, .inl (fun _ => 0))), (rK 4, .inl (cy 0, 8, .inl (fun _ => 0))), (rK 5, .inl (cy 0, 8, .inl (fun _ => 0))), (rK 6, .inl (cy 0, 8, .inl (fun _ => 0))), (rK 7, .inl (cy 0, 8, .inl (fun _ => 0)))] H := hP
  have hD : va_D A [(qm, .inr (5, [v1, v2, v3, v4, v5, v6, v7, v8, v9, v10, .int 0, .ref qmB, v11, v12, .ref qmK, v13, v14, v15, v16, v17, v18, v19, v20, v21, v22, v23, v24, v25, v26, v27, v28, v29, v30, v31, v32])), (qmB, .inl (cy 3, 8, .inr (.inr (.inr (.inr (fun i => if i < 8 then some (rB i) else none)))))), (rB 0, .inl (cy 0, 4, .inl (upd (upd (upd (upd (fun _ => 0) 0 iA) 1 0) 2 1000) 3 0))), (qmK, .inl (cy 3, 8, .inr (.inr (.inr (.inr (fun i => if i < 8 then some (rK i) else none)))))), (rK 0, .inl (cy 0, 8, .inl (upd (fun _ => 0) 0 0))), (rK 1, .inl (cy 0, 8, .inl (upd (fun _ => 0) 0 0))), (rK 2, .inl (cy 0, 8, .inl (upd (fun _ => 0) 0 0))), (rK 3, .inl (cy 0, 8, .inl (fun _ => 0))), (rK 4, .inl (cy 0, 8, .inl (fun _ => 0))), (rK 5, .inl (cy 0, 8, .inl (fun _ => 0))), (rK 6, .inl (cy 0, 8, .inl (fun _ => 0))), (rK 7, .inl (cy 0, 8, .inl (fun _ => 0)))] := hD
  refine lv_iinc (v := 3) (lv' := [(2, .int 3), (0, .ref qm), (1, .int iA)]) hx hb dX6_newBook_70 hl (k := 0) rfl (by decide) (by decide) rfl (fun ls hl => ?_)
  refine lv_goto (tgt := 52) hx hb dX6_newBook_73 (by decide) ?_
  refine lv_iload_n hx hb dX6_newBook_52 rfl (lv_at hl 0 rfl) ?_
  refine lv_bipush (v := 8) hx hb dX6_newBook_53 (by decide) ?_
  refine lv_icmp_ge (tgt := 76) hx hb dX6_newBook_55 (by decide) (fun h9 => absurd h9 (by decide)) (fun _ => ?_)
  refine lv_aload_n hx hb dX6_newBook_58 rfl (lv_at hl 1 rfl) ?_
  refine va_get (D := G) (ci := 5) (v := .ref qmK) (C := RX6) (T := TX6) (N := 35) hx hb hts iX_X6 hown hK hP 0 rfl rfl 14 (by decide) (hts _ m_t864) (fun _ h9 => h9) rfl dX6_newBook_59 ?_
  refine lv_iload_n hx hb dX6_newBook_62 rfl (lv_at hl 0 rfl) ?_
  refine va_alda hx hb hK hP 3 3 rfl rfl (in_c rfl) dX6_newBook_63 ?_
  refine lv_setv (v := .ref (rK 3)) (rfl) ?_
  refine lv_aload_n hx hb dX6_newBook_64 rfl (lv_at hl 1 rfl) ?_
  refine va_get (D := G) (ci := 5) (v := .int 0) (C := RX6) (T := TX6) (N := 35) hx hb hts iX_X6 hown hK hP 0 rfl rfl 10 (by decide) (hts _ m_t860) (fun _ h9 => h9) rfl dX6_newBook_65 ?_
  refine lv_iconst (v := 0) hx hb dX6_newBook_68 (by decide) ?_
  refine va_iast hx hb hK hP hD hS 7 0 rfl rfl (in_c rfl) dX6_newBook_69 (fun H locs hP hD hS => ?_)
  have hP : va_P G CL [(qm, .inr (5, [v1, v2, v3, v4, v5, v6, v7, v8, v9, v10, .int 0, .ref qmB, v11, v12, .ref qmK, v13, v14, v15, v16, v17, v18, v19, v20, v21, v22, v23, v24, v25, v26, v27, v28, v29, v30, v31, v32])), (qmB, .inl (cy 3, 8, .inr (.inr (.inr (.inr (fun i => if i < 8 then some (rB i) else none)))))), (rB 0, .inl (cy 0, 4, .inl (upd (upd (upd (upd (fun _ => 0) 0 iA) 1 0) 2 1000) 3 0))), (qmK, .inl (cy 3, 8, .inr (.inr (.inr (.inr (fun i => if i < 8 then some (rK i) else none)))))), (rK 0, .inl (cy 0, 8, .inl (upd (fun _ => 0) 0 0))), (rK 1, .inl (cy 0, 8, .inl (upd (fun _ => 0) 0 0))), (rK 2, .inl (cy 0, 8, .inl (upd (fun _ => 0) 0 0))), (rK 3, .inl (cy 0, 8, .inl (upd (fun _ => 0) 0 0))), (rK 4, .inl (cy 0, 8, .inl (fun _ => 0))), (rK 5, .inl (cy 0, 8, .inl (fun _ => 0))), (rK 6, .inl (cy 0, 8, .inl (fun _ => 0))), (rK 7, .inl (cy 0, 8, .inl (fun _ => 0)))] H := hP
  have hD : va_D A [(qm, .inr (5, [v1, v2, v3, v4, v5, v6, v7, v8, v9, v10, .int 0, .ref qmB, v11, v12, .ref qmK, v13, v14, v15, v16, v17, v18, v19, v20, v21, v22, v23, v24, v25, v26, v27, v28, v29, v30, v31, v32])), (qmB, .inl (cy 3, 8, .inr (.inr (.inr (.inr (fun i => if i < 8 then some (rB i) else none)))))), (rB 0, .inl (cy 0, 4, .inl (upd (upd (upd (upd (fun _ => 0) 0 iA) 1 0) 2 1000) 3 0))), (qmK, .inl (cy 3, 8, .inr (.inr (.inr (.inr (fun i => if i < 8 then some (rK i) else none)))))), (rK 0, .inl (cy 0, 8, .inl (upd (fun _ => 0) 0 0))), (rK 1, .inl (cy 0, 8, .inl (upd (fun _ => 0) 0 0))), (rK 2, .inl (cy 0, 8, .inl (upd (fun _ => 0) 0 0))), (rK 3, .inl (cy 0, 8, .inl (upd (fun _ => 0) 0 0))), (rK 4, .inl (cy 0, 8, .inl (fun _ => 0))), (rK 5, .inl (cy 0, 8, .inl (fun _ => 0))), (rK 6, .inl (cy 0, 8, .inl (fun _ => 0))), (rK 7, .inl (cy 0, 8, .inl (fun _ => 0)))] := hD
  refine lv_iinc (v := 4) (lv' := [(2, .int 4), (0, .ref qm), (1, .int iA)]) hx hb dX6_newBook_70 hl (k := 0) rfl (by decide) (by decide) rfl (fun ls hl => ?_)
  refine lv_goto (tgt := 52) hx hb dX6_newBook_73 (by decide) ?_
  refine lv_iload_n hx hb dX6_newBook_52 rfl (lv_at hl 0 rfl) ?_
  refine lv_bipush (v := 8) hx hb dX6_newBook_53 (by decide) ?_
  refine lv_icmp_ge (tgt := 76) hx hb dX6_newBook_55 (by decide) (fun h9 => absurd h9 (by decide)) (fun _ => ?_)
  refine lv_aload_n hx hb dX6_newBook_58 rfl (lv_at hl 1 rfl) ?_
  refine va_get (D := G) (ci := 5) (v := .ref qmK) (C := RX6) (T := TX6) (N := 35) hx hb hts iX_X6 hown hK hP 0 rfl rfl 14 (by decide) (hts _ m_t864) (fun _ h9 => h9) rfl dX6_newBook_59 ?_
  refine lv_iload_n hx hb dX6_newBook_62 rfl (lv_at hl 0 rfl) ?_
  refine va_alda hx hb hK hP 3 3 rfl rfl (in_c rfl) dX6_newBook_63 ?_
  refine lv_setv (v := .ref (rK 4)) (rfl) ?_
  refine lv_aload_n hx hb dX6_newBook_64 rfl (lv_at hl 1 rfl) ?_
  refine va_get (D := G) (ci := 5) (v := .int 0) (C := RX6) (T := TX6) (N := 35) hx hb hts iX_X6 hown hK hP 0 rfl rfl 10 (by decide) (hts _ m_t860) (fun _ h9 => h9) rfl dX6_newBook_65 ?_
  refine lv_iconst (v := 0) hx hb dX6_newBook_68 (by decide) ?_
  refine va_iast hx hb hK hP hD hS 8 0 rfl rfl (in_c rfl) dX6_newBook_69 (fun H locs hP hD hS => ?_)
  have hP : va_P G CL [(qm, .inr (5, [v1, v2, v3, v4, v5, v6, v7, v8, v9, v10, .int 0, .ref qmB, v11, v12, .ref qmK, v13, v14, v15, v16, v17, v18, v19, v20, v21, v22, v23, v24, v25, v26, v27, v28, v29, v30, v31, v32])), (qmB, .inl (cy 3, 8, .inr (.inr (.inr (.inr (fun i => if i < 8 then some (rB i) else none)))))), (rB 0, .inl (cy 0, 4, .inl (upd (upd (upd (upd (fun _ => 0) 0 iA) 1 0) 2 1000) 3 0))), (qmK, .inl (cy 3, 8, .inr (.inr (.inr (.inr (fun i => if i < 8 then some (rK i) else none)))))), (rK 0, .inl (cy 0, 8, .inl (upd (fun _ => 0) 0 0))), (rK 1, .inl (cy 0, 8, .inl (upd (fun _ => 0) 0 0))), (rK 2, .inl (cy 0, 8, .inl (upd (fun _ => 0) 0 0))), (rK 3, .inl (cy 0, 8, .inl (upd (fun _ => 0) 0 0))), (rK 4, .inl (cy 0, 8, .inl (upd (fun _ => 0) 0 0))), (rK 5, .inl (cy 0, 8, .inl (fun _ => 0))), (rK 6, .inl (cy 0, 8, .inl (fun _ => 0))), (rK 7, .inl (cy 0, 8, .inl (fun _ => 0)))] H := hP
  have hD : va_D A [(qm, .inr (5, [v1, v2, v3, v4, v5, v6, v7, v8, v9, v10, .int 0, .ref qmB, v11, v12, .ref qmK, v13, v14, v15, v16, v17, v18, v19, v20, v21, v22, v23, v24, v25, v26, v27, v28, v29, v30, v31, v32])), (qmB, .inl (cy 3, 8, .inr (.inr (.inr (.inr (fun i => if i < 8 then some (rB i) else none)))))), (rB 0, .inl (cy 0, 4, .inl (upd (upd (upd (upd (fun _ => 0) 0 iA) 1 0) 2 1000) 3 0))), (qmK, .inl (cy 3, 8, .inr (.inr (.inr (.inr (fun i => if i < 8 then some (rK i) else none)))))), (rK 0, .inl (cy 0, 8, .inl (upd (fun _ => 0) 0 0))), (rK 1, .inl (cy 0, 8, .inl (upd (fun _ => 0) 0 0))), (rK 2, .inl (cy 0, 8, .inl (upd (fun _ => 0) 0 0))), (rK 3, .inl (cy 0, 8, .inl (upd (fun _ => 0) 0 0))), (rK 4, .inl (cy 0, 8, .inl (upd (fun _ => 0) 0 0))), (rK 5, .inl (cy 0, 8, .inl (fun _ => 0))), (rK 6, .inl (cy 0, 8, .inl (fun _ => 0))), (rK 7, .inl (cy 0, 8, .inl (fun _ => 0)))] := hD
  refine lv_iinc (v := 5) (lv' := [(2, .int 5), (0, .ref qm), (1, .int iA)]) hx hb dX6_newBook_70 hl (k := 0) rfl (by decide) (by decide) rfl (fun ls hl => ?_)
  refine lv_goto (tgt := 52) hx hb dX6_newBook_73 (by decide) ?_
  refine lv_iload_n hx hb dX6_newBook_52 rfl (lv_at hl 0 rfl) ?_
  refine lv_bipush (v := 8) hx hb dX6_newBook_53 (by decide) ?_
  refine lv_icmp_ge (tgt := 76) hx hb dX6_newBook_55 (by decide) (fun h9 => absurd h9 (by decide)) (fun _ => ?_)
  refine lv_aload_n hx hb dX6_newBook_58 rfl (lv_at hl 1 rfl) ?_
  refine va_get (D := G) (ci := 5) (v := .ref qmK) (C := RX6) (T := TX6) (N := 35) hx hb hts iX_X6 hown hK hP 0 rfl rfl 14 (by decide) (hts _ m_t864) (fun _ h9 => h9) rfl dX6_newBook_59 ?_
  refine lv_iload_n hx hb dX6_newBook_62 rfl (lv_at hl 0 rfl) ?_
  refine va_alda hx hb hK hP 3 3 rfl rfl (in_c rfl) dX6_newBook_63 ?_
  refine lv_setv (v := .ref (rK 5)) (rfl) ?_
  refine lv_aload_n hx hb dX6_newBook_64 rfl (lv_at hl 1 rfl) ?_
  refine va_get (D := G) (ci := 5) (v := .int 0) (C := RX6) (T := TX6) (N := 35) hx hb hts iX_X6 hown hK hP 0 rfl rfl 10 (by decide) (hts _ m_t860) (fun _ h9 => h9) rfl dX6_newBook_65 ?_
  refine lv_iconst (v := 0) hx hb dX6_newBook_68 (by decide) ?_
  refine va_iast hx hb hK hP hD hS 9 0 rfl rfl (in_c rfl) dX6_newBook_69 (fun H locs hP hD hS => ?_)
  have hP : va_P G CL [(qm, .inr (5, [v1, v2, v3, v4, v5, v6, v7, v8, v9, v10, .int 0, .ref qmB, v11, v12, .ref qmK, v13, v14, v15, v16, v17, v18, v19, v20, v21, v22, v23, v24, v25, v26, v27, v28, v29, v30, v31, v32])), (qmB, .inl (cy 3, 8, .inr (.inr (.inr (.inr (fun i => if i < 8 then some (rB i) else none)))))), (rB 0, .inl (cy 0, 4, .inl (upd (upd (upd (upd (fun _ => 0) 0 iA) 1 0) 2 1000) 3 0))), (qmK, .inl (cy 3, 8, .inr (.inr (.inr (.inr (fun i => if i < 8 then some (rK i) else none)))))), (rK 0, .inl (cy 0, 8, .inl (upd (fun _ => 0) 0 0))), (rK 1, .inl (cy 0, 8, .inl (upd (fun _ => 0) 0 0))), (rK 2, .inl (cy 0, 8, .inl (upd (fun _ => 0) 0 0))), (rK 3, .inl (cy 0, 8, .inl (upd (fun _ => 0) 0 0))), (rK 4, .inl (cy 0, 8, .inl (upd (fun _ => 0) 0 0))), (rK 5, .inl (cy 0, 8, .inl (upd (fun _ => 0) 0 0))), (rK 6, .inl (cy 0, 8, .inl (fun _ => 0))), (rK 7, .inl (cy 0, 8, .inl (fun _ => 0)))] H := hP
  have hD : va_D A [(qm, .inr (5, [v1, v2, v3, v4, v5, v6, v7, v8, v9, v10, .int 0, .ref qmB, v11, v12, .ref qmK, v13, v14, v15, v16, v17, v18, v19, v20, v21, v22, v23, v24, v25, v26, v27, v28, v29, v30, v31, v32])), (qmB, .inl (cy 3, 8, .inr (.inr (.inr (.inr (fun i => if i < 8 then some (rB i) else none)))))), (rB 0, .inl (cy 0, 4, .inl (upd (upd (upd (upd (fun _ => 0) 0 iA) 1 0) 2 1000) 3 0))), (qmK, .inl (cy 3, 8, .inr (.inr (.inr (.inr (fun i => if i < 8 then some (rK i) else none)))))), (rK 0, .inl (cy 0, 8, .inl (upd (fun _ => 0) 0 0))), (rK 1, .inl (cy 0, 8, .inl (upd (fun _ => 0) 0 0))), (rK 2, .inl (cy 0, 8, .inl (upd (fun _ => 0) 0 0))), (rK 3, .inl (cy 0, 8, .inl (upd (fun _ => 0) 0 0))), (rK 4, .inl (cy 0, 8, .inl (upd (fun _ => 0) 0 0))), (rK 5, .inl (cy 0, 8, .inl (upd (fun _ => 0) 0 0))), (rK 6, .inl (cy 0, 8, .inl (fun _ => 0))), (rK 7, .inl (cy 0, 8, .inl (fun _ => 0)))] := hD
  refine lv_iinc (v := 6) (lv' := [(2, .int 6), (0, .ref qm), (1, .int iA)]) hx hb dX6_newBook_70 hl (k := 0) rfl (by decide) (by decide) rfl (fun ls hl => ?_)
  refine lv_goto (tgt := 52) hx hb dX6_newBook_73 (by decide) ?_
  refine lv_iload_n hx hb dX6_newBook_52 rfl (lv_at hl 0 rfl) ?_
  refine lv_bipush (v := 8) hx hb dX6_newBook_53 (by decide) ?_
  refine lv_icmp_ge (tgt := 76) hx hb dX6_newBook_55 (by decide) (fun h9 => absurd h9 (by decide)) (fun _ => ?_)
  refine lv_aload_n hx hb dX6_newBook_58 rfl (lv_at hl 1 rfl) ?_
  refine va_get (D := G) (ci := 5) (v := .ref qmK) (C := RX6) (T := TX6) (N := 35) hx hb hts iX_X6 hown hK hP 0 rfl rfl 14 (by decide) (hts _ m_t864) (fun _ h9 => h9) rfl dX6_newBook_59 ?_
  refine lv_iload_n hx hb dX6_newBook_62 rfl (lv_at hl 0 rfl) ?_
  refine va_alda hx hb hK hP 3 3 rfl rfl (in_c rfl) dX6_newBook_63 ?_
  refine lv_setv (v := .ref (rK 6)) (rfl) ?_
  refine lv_aload_n hx hb dX6_newBook_64 rfl (lv_at hl 1 rfl) ?_
  refine va_get (D := G) (ci := 5) (v := .int 0) (C := RX6) (T := TX6) (N := 35) hx hb hts iX_X6 hown hK hP 0 rfl rfl 10 (by decide) (hts _ m_t860) (fun _ h9 => h9) rfl dX6_newBook_65 ?_
  refine lv_iconst (v := 0) hx hb dX6_newBook_68 (by decide) ?_
  refine va_iast hx hb hK hP hD hS 10 0 rfl rfl (in_c rfl) dX6_newBook_69 (fun H locs hP hD hS => ?_)
  have hP : va_P G CL [(qm, .inr (5, [v1, v2, v3, v4, v5, v6, v7, v8, v9, v10, .int 0, .ref qmB, v11, v12, .ref qmK, v13, v14, v15, v16, v17, v18, v19, v20, v21, v22, v23, v24, v25, v26, v27, v28, v29, v30, v31, v32])), (qmB, .inl (cy 3, 8, .inr (.inr (.inr (.inr (fun i => if i < 8 then some (rB i) else none)))))), (rB 0, .inl (cy 0, 4, .inl (upd (upd (upd (upd (fun _ => 0) 0 iA) 1 0) 2 1000) 3 0))), (qmK, .inl (cy 3, 8, .inr (.inr (.inr (.inr (fun i => if i < 8 then some (rK i) else none)))))), (rK 0, .inl (cy 0, 8, .inl (upd (fun _ => 0) 0 0))), (rK 1, .inl (cy 0, 8, .inl (upd (fun _ => 0) 0 0))), (rK 2, .inl (cy 0, 8, .inl (upd (fun _ => 0) 0 0))), (rK 3, .inl (cy 0, 8, .inl (upd (fun _ => 0) 0 0))), (rK 4, .inl (cy 0, 8, .inl (upd (fun _ => 0) 0 0))), (rK 5, .inl (cy 0, 8, .inl (upd (fun _ => 0) 0 0))), (rK 6, .inl (cy 0, 8, .inl (upd (fun _ => 0) 0 0))), (rK 7, .inl (cy 0, 8, .inl (fun _ => 0)))] H := hP
  have hD : va_D A [(qm, .inr (5, [v1, v2, v3, v4, v5, v6, v7, v8, v9, v10, .int 0, .ref qmB, v11, v12, .ref qmK, v13, v14, v15, v16, v17, v18, v19, v20, v21, v22, v23, v24, v25, v26, v27, v28, v29, v30, v31, v32])), (qmB, .inl (cy 3, 8, .inr (.inr (.inr (.inr (fun i => if i < 8 then some (rB i) else none)))))), (rB 0, .inl (cy 0, 4, .inl (upd (upd (upd (upd (fun _ => 0) 0 iA) 1 0) 2 1000) 3 0))), (qmK, .inl (cy 3, 8, .inr (.inr (.inr (.inr (fun i => if i < 8 then some (rK i) else none)))))), (rK 0, .inl (cy 0, 8, .inl (upd (fun _ => 0) 0 0))), (rK 1, .inl (cy 0, 8, .inl (upd (fun _ => 0) 0 0))), (rK 2, .inl (cy 0, 8, .inl (upd (fun _ => 0) 0 0))), (rK 3, .inl (cy 0, 8, .inl (upd (fun _ => 0) 0 0))), (rK 4, .inl (cy 0, 8, .inl (upd (fun _ => 0) 0 0))), (rK 5, .inl (cy 0, 8, .inl (upd (fun _ => 0) 0 0))), (rK 6, .inl (cy 0, 8, .inl (upd (fun _ => 0) 0 0))), (rK 7, .inl (cy 0, 8, .inl (fun _ => 0)))] := hD
  refine lv_iinc (v := 7) (lv' := [(2, .int 7), (0, .ref qm), (1, .int iA)]) hx hb dX6_newBook_70 hl (k := 0) rfl (by decide) (by decide) rfl (fun ls hl => ?_)
  refine lv_goto (tgt := 52) hx hb dX6_newBook_73 (by decide) ?_
  refine lv_iload_n hx hb dX6_newBook_52 rfl (lv_at hl 0 rfl) ?_
  refine lv_bipush (v := 8) hx hb dX6_newBook_53 (by decide) ?_
  refine lv_icmp_ge (tgt := 76) hx hb dX6_newBook_55 (by decide) (fun h9 => absurd h9 (by decide)) (fun _ => ?_)
  refine lv_aload_n hx hb dX6_newBook_58 rfl (lv_at hl 1 rfl) ?_
  refine va_get (D := G) (ci := 5) (v := .ref qmK) (C := RX6) (T := TX6) (N := 35) hx hb hts iX_X6 hown hK hP 0 rfl rfl 14 (by decide) (hts _ m_t864) (fun _ h9 => h9) rfl dX6_newBook_59 ?_
  refine lv_iload_n hx hb dX6_newBook_62 rfl (lv_at hl 0 rfl) ?_
  refine va_alda hx hb hK hP 3 3 rfl rfl (in_c rfl) dX6_newBook_63 ?_
  refine lv_setv (v := .ref (rK 7)) (rfl) ?_
  refine lv_aload_n hx hb dX6_newBook_64 rfl (lv_at hl 1 rfl) ?_
  refine va_get (D := G) (ci := 5) (v := .int 0) (C := RX6) (T := TX6) (N := 35) hx hb hts iX_X6 hown hK hP 0 rfl rfl 10 (by decide) (hts _ m_t860) (fun _ h9 => h9) rfl dX6_newBook_65 ?_
  refine lv_iconst (v := 0) hx hb dX6_newBook_68 (by decide) ?_
  refine va_iast hx hb hK hP hD hS 11 0 rfl rfl (in_c rfl) dX6_newBook_69 (fun H locs hP hD hS => ?_)
  have hP : va_P G CL [(qm, .inr (5, [v1, v2, v3, v4, v5, v6, v7, v8, v9, v10, .int 0, .ref qmB, v11, v12, .ref qmK, v13, v14, v15, v16, v17, v18, v19, v20, v21, v22, v23, v24, v25, v26, v27, v28, v29, v30, v31, v32])), (qmB, .inl (cy 3, 8, .inr (.inr (.inr (.inr (fun i => if i < 8 then some (rB i) else none)))))), (rB 0, .inl (cy 0, 4, .inl (upd (upd (upd (upd (fun _ => 0) 0 iA) 1 0) 2 1000) 3 0))), (qmK, .inl (cy 3, 8, .inr (.inr (.inr (.inr (fun i => if i < 8 then some (rK i) else none)))))), (rK 0, .inl (cy 0, 8, .inl (upd (fun _ => 0) 0 0))), (rK 1, .inl (cy 0, 8, .inl (upd (fun _ => 0) 0 0))), (rK 2, .inl (cy 0, 8, .inl (upd (fun _ => 0) 0 0))), (rK 3, .inl (cy 0, 8, .inl (upd (fun _ => 0) 0 0))), (rK 4, .inl (cy 0, 8, .inl (upd (fun _ => 0) 0 0))), (rK 5, .inl (cy 0, 8, .inl (upd (fun _ => 0) 0 0))), (rK 6, .inl (cy 0, 8, .inl (upd (fun _ => 0) 0 0))), (rK 7, .inl (cy 0, 8, .inl (upd (fun _ => 0) 0 0)))] H := hP
  have hD : va_D A [(qm, .inr (5, [v1, v2, v3, v4, v5, v6, v7, v8, v9, v10, .int 0, .ref qmB, v11, v12, .ref qmK, v13, v14, v15, v16, v17, v18, v19, v20, v21, v22, v23, v24, v25, v26, v27, v28, v29, v30, v31, v32])), (qmB, .inl (cy 3, 8, .inr (.inr (.inr (.inr (fun i => if i < 8 then some (rB i) else none)))))), (rB 0, .inl (cy 0, 4, .inl (upd (upd (upd (upd (fun _ => 0) 0 iA) 1 0) 2 1000) 3 0))), (qmK, .inl (cy 3, 8, .inr (.inr (.inr (.inr (fun i => if i < 8 then some (rK i) else none)))))), (rK 0, .inl (cy 0, 8, .inl (upd (fun _ => 0) 0 0))), (rK 1, .inl (cy 0, 8, .inl (upd (fun _ => 0) 0 0))), (rK 2, .inl (cy 0, 8, .inl (upd (fun _ => 0) 0 0))), (rK 3, .inl (cy 0, 8, .inl (upd (fun _ => 0) 0 0))), (rK 4, .inl (cy 0, 8, .inl (upd (fun _ => 0) 0 0))), (rK 5, .inl (cy 0, 8, .inl (upd (fun _ => 0) 0 0))), (rK 6, .inl (cy 0, 8, .inl (upd (fun _ => 0) 0 0))), (rK 7, .inl (cy 0, 8, .inl (upd (fun _ => 0) 0 0)))] := hD
  refine lv_iinc (v := 8) (lv' := [(2, .int 8), (0, .ref qm), (1, .int iA)]) hx hb dX6_newBook_70 hl (k := 0) rfl (by decide) (by decide) rfl (fun ls hl => ?_)
  refine lv_goto (tgt := 52) hx hb dX6_newBook_73 (by decide) ?_
  refine lv_iload_n hx hb dX6_newBook_52 rfl (lv_at hl 0 rfl) ?_
  refine lv_bipush (v := 8) hx hb dX6_newBook_53 (by decide) ?_
  refine lv_icmp_ge (tgt := 76) hx hb dX6_newBook_55 (by decide) (fun _ => ?_) (fun h9 => absurd (by decide) h9)
  exact endV (u := []) hx hb hr hlocks va_P0 va_D0 hS rfl dX6_newBook_76
set_option maxHeartbeats 4000000 in
set_option maxRecDepth 100000 in
theorem c_X6_newOne (l : Launch) (G : va_G) (cy : Nat → ClassId) (sz : Nat) (qm : Nat) (v1 : Value) (v2 : Value) (v3 : Value) (v4 : Value) (v5 : Value) (v6 : Value) (v7 : Value) (v8 : Value) (v9 : Value) (v10 : Value) (v11 : Value) (v12 : Value) (qmO : Nat) (qmK : Nat) (v13 : Value) (v14 : Value) (v15 : Value) (v16 : Value) (v17 : Value) (v18 : Value) (v19 : Value) (v20 : Value) (v21 : Value) (v22 : Value) (v23 : Value) (v24 : Value) (v25 : Value) (v26 : Value) (v27 : Value) (v28 : Value) (v29 : Value) (v30 : Value) (v31 : Value) (v32 : Value) (rO : Nat → Nat) (rK : Nat → Nat)   : MW l yX6_newOne cX6_newOne 2 none 1 0 0 G cy [(qm, .inr (5, [v1, v2, v3, v4, v5, v6, v7, v8, v9, v10, v11, v12, .int 0, .ref qmO, .ref qmK, v13, v14, v15, v16, v17, v18, v19, v20, v21, v22, v23, v24, v25, v26, v27, v28, v29, v30, v31, v32])), (qmO, .inl (cy 3, 8, .inr (.inr (.inr (.inr (fun i => if i < 8 then some (rO i) else none)))))), (rO 0, .inl (cy 0, 5, .inl (fun _ => 0))), (qmK, .inl (cy 3, 8, .inr (.inr (.inr (.inr (fun i => if i < 8 then some (rK i) else none)))))), (rK 0, .inl (cy 0, 8, .inl (fun _ => 0)))] sz [.ref qm] (Wv G (fun u => u = [])) := by
  refine enW RX6 (by decide) rfl (Nat.le_of_ble_eq_true rfl) (fun p e s m below meth c ls A hx hb hml hown hts hr hlocks hP hN hl hin hD hA hS => ?_)
  have hin : meth.name = _ := hin
  have hK := hN.1
  have hl : lv_has ls 2 [(0, .ref qm)] := hl
  refine lv_aload_n hx hb dX6_newOne_0 rfl (lv_at hl 0 rfl) ?_
  refine va_get (D := G) (ci := 5) (v := .ref qmO) (C := RX6) (T := TX6) (N := 35) hx hb hts iX_X6 hown hK hP 0 rfl rfl 13 (by decide) (hts _ m_t863) (fun _ h9 => h9) rfl dX6_newOne_1 ?_
  refine lv_aload_n hx hb dX6_newOne_4 rfl (lv_at hl 0 rfl) ?_
  refine va_get (D := G) (ci := 5) (v := .int 0) (C := RX6) (T := TX6) (N := 35) hx hb hts iX_X6 hown hK hP 0 rfl rfl 12 (by decide) (hts _ m_t862) (fun _ h9 => h9) rfl dX6_newOne_5 ?_
  refine va_alda hx hb hK hP 1 3 rfl rfl (in_c rfl) dX6_newOne_8 ?_
  refine lv_setv (v := .ref (rO 0)) (rfl) ?_
  refine lv_iconst (v := 1) hx hb dX6_newOne_9 (by decide) ?_
  refine lv_iconst (v := 5) hx hb dX6_newOne_10 (by decide) ?_
  refine va_iast hx hb hK hP hD hS 2 0 rfl rfl (in_c rfl) dX6_newOne_11 (fun H locs hP hD hS => ?_)
  have hP : va_P G CL [(qm, .inr (5, [v1, v2, v3, v4, v5, v6, v7, v8, v9, v10, v11, v12, .int 0, .ref qmO, .ref qmK, v13, v14, v15, v16, v17, v18, v19, v20, v21, v22, v23, v24, v25, v26, v27, v28, v29, v30, v31, v32])), (qmO, .inl (cy 3, 8, .inr (.inr (.inr (.inr (fun i => if i < 8 then some (rO i) else none)))))), (rO 0, .inl (cy 0, 5, .inl (upd (fun _ => 0) 1 5))), (qmK, .inl (cy 3, 8, .inr (.inr (.inr (.inr (fun i => if i < 8 then some (rK i) else none)))))), (rK 0, .inl (cy 0, 8, .inl (fun _ => 0)))] H := hP
  have hD : va_D A [(qm, .inr (5, [v1, v2, v3, v4, v5, v6, v7, v8, v9, v10, v11, v12, .int 0, .ref qmO, .ref qmK, v13, v14, v15, v16, v17, v18, v19, v20, v21, v22, v23, v24, v25, v26, v27, v28, v29, v30, v31, v32])), (qmO, .inl (cy 3, 8, .inr (.inr (.inr (.inr (fun i => if i < 8 then some (rO i) else none)))))), (rO 0, .inl (cy 0, 5, .inl (upd (fun _ => 0) 1 5))), (qmK, .inl (cy 3, 8, .inr (.inr (.inr (.inr (fun i => if i < 8 then some (rK i) else none)))))), (rK 0, .inl (cy 0, 8, .inl (fun _ => 0)))] := hD
  refine lv_aload_n hx hb dX6_newOne_12 rfl (lv_at hl 0 rfl) ?_
  refine va_get (D := G) (ci := 5) (v := .ref qmO) (C := RX6) (T := TX6) (N := 35) hx hb hts iX_X6 hown hK hP 0 rfl rfl 13 (by decide) (hts _ m_t863) (fun _ h9 => h9) rfl dX6_newOne_13 ?_
  refine lv_aload_n hx hb dX6_newOne_16 rfl (lv_at hl 0 rfl) ?_
  refine va_get (D := G) (ci := 5) (v := .int 0) (C := RX6) (T := TX6) (N := 35) hx hb hts iX_X6 hown hK hP 0 rfl rfl 12 (by decide) (hts _ m_t862) (fun _ h9 => h9) rfl dX6_newOne_17 ?_
  refine va_alda hx hb hK hP 1 3 rfl rfl (in_c rfl) dX6_newOne_20 ?_
  refine lv_setv (v := .ref (rO 0)) (rfl) ?_
  refine lv_iconst (v := 2) hx hb dX6_newOne_21 (by decide) ?_
  refine lv_iconst (v := 5) hx hb dX6_newOne_22 (by decide) ?_
  refine va_iast hx hb hK hP hD hS 2 0 rfl rfl (in_c rfl) dX6_newOne_23 (fun H locs hP hD hS => ?_)
  have hP : va_P G CL [(qm, .inr (5, [v1, v2, v3, v4, v5, v6, v7, v8, v9, v10, v11, v12, .int 0, .ref qmO, .ref qmK, v13, v14, v15, v16, v17, v18, v19, v20, v21, v22, v23, v24, v25, v26, v27, v28, v29, v30, v31, v32])), (qmO, .inl (cy 3, 8, .inr (.inr (.inr (.inr (fun i => if i < 8 then some (rO i) else none)))))), (rO 0, .inl (cy 0, 5, .inl (upd (upd (fun _ => 0) 1 5) 2 5))), (qmK, .inl (cy 3, 8, .inr (.inr (.inr (.inr (fun i => if i < 8 then some (rK i) else none)))))), (rK 0, .inl (cy 0, 8, .inl (fun _ => 0)))] H := hP
  have hD : va_D A [(qm, .inr (5, [v1, v2, v3, v4, v5, v6, v7, v8, v9, v10, v11, v12, .int 0, .ref qmO, .ref qmK, v13, v14, v15, v16, v17, v18, v19, v20, v21, v22, v23, v24, v25, v26, v27, v28, v29, v30, v31, v32])), (qmO, .inl (cy 3, 8, .inr (.inr (.inr (.inr (fun i => if i < 8 then some (rO i) else none)))))), (rO 0, .inl (cy 0, 5, .inl (upd (upd (fun _ => 0) 1 5) 2 5))), (qmK, .inl (cy 3, 8, .inr (.inr (.inr (.inr (fun i => if i < 8 then some (rK i) else none)))))), (rK 0, .inl (cy 0, 8, .inl (fun _ => 0)))] := hD
  refine lv_aload_n hx hb dX6_newOne_24 rfl (lv_at hl 0 rfl) ?_
  refine va_get (D := G) (ci := 5) (v := .ref qmO) (C := RX6) (T := TX6) (N := 35) hx hb hts iX_X6 hown hK hP 0 rfl rfl 13 (by decide) (hts _ m_t863) (fun _ h9 => h9) rfl dX6_newOne_25 ?_
  refine lv_aload_n hx hb dX6_newOne_28 rfl (lv_at hl 0 rfl) ?_
  refine va_get (D := G) (ci := 5) (v := .int 0) (C := RX6) (T := TX6) (N := 35) hx hb hts iX_X6 hown hK hP 0 rfl rfl 12 (by decide) (hts _ m_t862) (fun _ h9 => h9) rfl dX6_newOne_29 ?_
  refine va_alda hx hb hK hP 1 3 rfl rfl (in_c rfl) dX6_newOne_32 ?_
  refine lv_setv (v := .ref (rO 0)) (rfl) ?_
  refine lv_iconst (v := 3) hx hb dX6_newOne_33 (by decide) ?_
  refine lv_iconst (v := 5) hx hb dX6_newOne_34 (by decide) ?_
  refine va_iast hx hb hK hP hD hS 2 0 rfl rfl (in_c rfl) dX6_newOne_35 (fun H locs hP hD hS => ?_)
  have hP : va_P G CL [(qm, .inr (5, [v1, v2, v3, v4, v5, v6, v7, v8, v9, v10, v11, v12, .int 0, .ref qmO, .ref qmK, v13, v14, v15, v16, v17, v18, v19, v20, v21, v22, v23, v24, v25, v26, v27, v28, v29, v30, v31, v32])), (qmO, .inl (cy 3, 8, .inr (.inr (.inr (.inr (fun i => if i < 8 then some (rO i) else none)))))), (rO 0, .inl (cy 0, 5, .inl (upd (upd (upd (fun _ => 0) 1 5) 2 5) 3 5))), (qmK, .inl (cy 3, 8, .inr (.inr (.inr (.inr (fun i => if i < 8 then some (rK i) else none)))))), (rK 0, .inl (cy 0, 8, .inl (fun _ => 0)))] H := hP
  have hD : va_D A [(qm, .inr (5, [v1, v2, v3, v4, v5, v6, v7, v8, v9, v10, v11, v12, .int 0, .ref qmO, .ref qmK, v13, v14, v15, v16, v17, v18, v19, v20, v21, v22, v23, v24, v25, v26, v27, v28, v29, v30, v31, v32])), (qmO, .inl (cy 3, 8, .inr (.inr (.inr (.inr (fun i => if i < 8 then some (rO i) else none)))))), (rO 0, .inl (cy 0, 5, .inl (upd (upd (upd (fun _ => 0) 1 5) 2 5) 3 5))), (qmK, .inl (cy 3, 8, .inr (.inr (.inr (.inr (fun i => if i < 8 then some (rK i) else none)))))), (rK 0, .inl (cy 0, 8, .inl (fun _ => 0)))] := hD
  refine lv_aload_n hx hb dX6_newOne_36 rfl (lv_at hl 0 rfl) ?_
  refine va_get (D := G) (ci := 5) (v := .ref qmO) (C := RX6) (T := TX6) (N := 35) hx hb hts iX_X6 hown hK hP 0 rfl rfl 13 (by decide) (hts _ m_t863) (fun _ h9 => h9) rfl dX6_newOne_37 ?_
  refine lv_aload_n hx hb dX6_newOne_40 rfl (lv_at hl 0 rfl) ?_
  refine va_get (D := G) (ci := 5) (v := .int 0) (C := RX6) (T := TX6) (N := 35) hx hb hts iX_X6 hown hK hP 0 rfl rfl 12 (by decide) (hts _ m_t862) (fun _ h9 => h9) rfl dX6_newOne_41 ?_
  refine va_alda hx hb hK hP 1 3 rfl rfl (in_c rfl) dX6_newOne_44 ?_
  refine lv_setv (v := .ref (rO 0)) (rfl) ?_
  refine lv_iconst (v := 4) hx hb dX6_newOne_45 (by decide) ?_
  refine lv_iconst (v := 0) hx hb dX6_newOne_46 (by decide) ?_
  refine va_iast hx hb hK hP hD hS 2 0 rfl rfl (in_c rfl) dX6_newOne_47 (fun H locs hP hD hS => ?_)
  have hP : va_P G CL [(qm, .inr (5, [v1, v2, v3, v4, v5, v6, v7, v8, v9, v10, v11, v12, .int 0, .ref qmO, .ref qmK, v13, v14, v15, v16, v17, v18, v19, v20, v21, v22, v23, v24, v25, v26, v27, v28, v29, v30, v31, v32])), (qmO, .inl (cy 3, 8, .inr (.inr (.inr (.inr (fun i => if i < 8 then some (rO i) else none)))))), (rO 0, .inl (cy 0, 5, .inl (upd (upd (upd (upd (fun _ => 0) 1 5) 2 5) 3 5) 4 0))), (qmK, .inl (cy 3, 8, .inr (.inr (.inr (.inr (fun i => if i < 8 then some (rK i) else none)))))), (rK 0, .inl (cy 0, 8, .inl (fun _ => 0)))] H := hP
  have hD : va_D A [(qm, .inr (5, [v1, v2, v3, v4, v5, v6, v7, v8, v9, v10, v11, v12, .int 0, .ref qmO, .ref qmK, v13, v14, v15, v16, v17, v18, v19, v20, v21, v22, v23, v24, v25, v26, v27, v28, v29, v30, v31, v32])), (qmO, .inl (cy 3, 8, .inr (.inr (.inr (.inr (fun i => if i < 8 then some (rO i) else none)))))), (rO 0, .inl (cy 0, 5, .inl (upd (upd (upd (upd (fun _ => 0) 1 5) 2 5) 3 5) 4 0))), (qmK, .inl (cy 3, 8, .inr (.inr (.inr (.inr (fun i => if i < 8 then some (rK i) else none)))))), (rK 0, .inl (cy 0, 8, .inl (fun _ => 0)))] := hD
  refine lv_iconst (v := 0) hx hb dX6_newOne_48 (by decide) ?_
  refine lv_istore_n (lv' := [(1, .int 0), (0, .ref qm)]) hx hb dX6_newOne_49 rfl hl (by decide) rfl (fun ls hl => ?_)
  refine lv_iload_n hx hb dX6_newOne_50 rfl (lv_at hl 0 rfl) ?_
  refine lv_bipush (v := 8) hx hb dX6_newOne_51 (by decide) ?_
  refine lv_icmp_ge (tgt := 74) hx hb dX6_newOne_53 (by decide) (fun h9 => absurd h9 (by decide)) (fun _ => ?_)
  refine lv_aload_n hx hb dX6_newOne_56 rfl (lv_at hl 1 rfl) ?_
  refine va_get (D := G) (ci := 5) (v := .ref qmK) (C := RX6) (T := TX6) (N := 35) hx hb hts iX_X6 hown hK hP 0 rfl rfl 14 (by decide) (hts _ m_t864) (fun _ h9 => h9) rfl dX6_newOne_57 ?_
  refine lv_aload_n hx hb dX6_newOne_60 rfl (lv_at hl 1 rfl) ?_
  refine va_get (D := G) (ci := 5) (v := .int 0) (C := RX6) (T := TX6) (N := 35) hx hb hts iX_X6 hown hK hP 0 rfl rfl 12 (by decide) (hts _ m_t862) (fun _ h9 => h9) rfl dX6_newOne_61 ?_
  refine va_alda hx hb hK hP 3 3 rfl rfl (in_c rfl) dX6_newOne_64 ?_
  refine lv_setv (v := .ref (rK 0)) (rfl) ?_
  refine lv_iload_n hx hb dX6_newOne_65 rfl (lv_at hl 0 rfl) ?_
  refine lv_iconst (v := 0) hx hb dX6_newOne_66 (by decide) ?_
  refine va_iast hx hb hK hP hD hS 4 0 rfl rfl (in_c rfl) dX6_newOne_67 (fun H locs hP hD hS => ?_)
  have hP : va_P G CL [(qm, .inr (5, [v1, v2, v3, v4, v5, v6, v7, v8, v9, v10, v11, v12, .int 0, .ref qmO, .ref qmK, v13, v14, v15, v16, v17, v18, v19, v20, v21, v22, v23, v24, v25, v26, v27, v28, v29, v30, v31, v32])), (qmO, .inl (cy 3, 8, .inr (.inr (.inr (.inr (fun i => if i < 8 then some (rO i) else none)))))), (rO 0, .inl (cy 0, 5, .inl (upd (upd (upd (upd (fun _ => 0) 1 5) 2 5) 3 5) 4 0))), (qmK, .inl (cy 3, 8, .inr (.inr (.inr (.inr (fun i => if i < 8 then some (rK i) else none)))))), (rK 0, .inl (cy 0, 8, .inl (upd (fun _ => 0) 0 0)))] H := hP
  have hD : va_D A [(qm, .inr (5, [v1, v2, v3, v4, v5, v6, v7, v8, v9, v10, v11, v12, .int 0, .ref qmO, .ref qmK, v13, v14, v15, v16, v17, v18, v19, v20, v21, v22, v23, v24, v25, v26, v27, v28, v29, v30, v31, v32])), (qmO, .inl (cy 3, 8, .inr (.inr (.inr (.inr (fun i => if i < 8 then some (rO i) else none)))))), (rO 0, .inl (cy 0, 5, .inl (upd (upd (upd (upd (fun _ => 0) 1 5) 2 5) 3 5) 4 0))), (qmK, .inl (cy 3, 8, .inr (.inr (.inr (.inr (fun i => if i < 8 then some (rK i) else none)))))), (rK 0, .inl (cy 0, 8, .inl (upd (fun _ => 0) 0 0)))] := hD
  refine lv_iinc (v := 1) (lv' := [(1, .int 1), (0, .ref qm)]) hx hb dX6_newOne_68 hl (k := 0) rfl (by decide) (by decide) rfl (fun ls hl => ?_)
  refine lv_goto (tgt := 50) hx hb dX6_newOne_71 (by decide) ?_
  refine lv_iload_n hx hb dX6_newOne_50 rfl (lv_at hl 0 rfl) ?_
  refine lv_bipush (v := 8) hx hb dX6_newOne_51 (by decide) ?_
  refine lv_icmp_ge (tgt := 74) hx hb dX6_newOne_53 (by decide) (fun h9 => absurd h9 (by decide)) (fun _ => ?_)
  refine lv_aload_n hx hb dX6_newOne_56 rfl (lv_at hl 1 rfl) ?_
  refine va_get (D := G) (ci := 5) (v := .ref qmK) (C := RX6) (T := TX6) (N := 35) hx hb hts iX_X6 hown hK hP 0 rfl rfl 14 (by decide) (hts _ m_t864) (fun _ h9 => h9) rfl dX6_newOne_57 ?_
  refine lv_aload_n hx hb dX6_newOne_60 rfl (lv_at hl 1 rfl) ?_
  refine va_get (D := G) (ci := 5) (v := .int 0) (C := RX6) (T := TX6) (N := 35) hx hb hts iX_X6 hown hK hP 0 rfl rfl 12 (by decide) (hts _ m_t862) (fun _ h9 => h9) rfl dX6_newOne_61 ?_
  refine va_alda hx hb hK hP 3 3 rfl rfl (in_c rfl) dX6_newOne_64 ?_
  refine lv_setv (v := .ref (rK 0)) (rfl) ?_
  refine lv_iload_n hx hb dX6_newOne_65 rfl (lv_at hl 0 rfl) ?_
  refine lv_iconst (v := 0) hx hb dX6_newOne_66 (by decide) ?_
  refine va_iast hx hb hK hP hD hS 4 0 rfl rfl (in_c rfl) dX6_newOne_67 (fun H locs hP hD hS => ?_)
  have hP : va_P G CL [(qm, .inr (5, [v1, v2, v3, v4, v5, v6, v7, v8, v9, v10, v11, v12, .int 0, .ref qmO, .ref qmK, v13, v14, v15, v16, v17, v18, v19, v20, v21, v22, v23, v24, v25, v26, v27, v28, v29, v30, v31, v32])), (qmO, .inl (cy 3, 8, .inr (.inr (.inr (.inr (fun i => if i < 8 then some (rO i) else none)))))), (rO 0, .inl (cy 0, 5, .inl (upd (upd (upd (upd (fun _ => 0) 1 5) 2 5) 3 5) 4 0))), (qmK, .inl (cy 3, 8, .inr (.inr (.inr (.inr (fun i => if i < 8 then some (rK i) else none)))))), (rK 0, .inl (cy 0, 8, .inl (upd (upd (fun _ => 0) 0 0) 1 0)))] H := hP
  have hD : va_D A [(qm, .inr (5, [v1, v2, v3, v4, v5, v6, v7, v8, v9, v10, v11, v12, .int 0, .ref qmO, .ref qmK, v13, v14, v15, v16, v17, v18, v19, v20, v21, v22, v23, v24, v25, v26, v27, v28, v29, v30, v31, v32])), (qmO, .inl (cy 3, 8, .inr (.inr (.inr (.inr (fun i => if i < 8 then some (rO i) else none)))))), (rO 0, .inl (cy 0, 5, .inl (upd (upd (upd (upd (fun _ => 0) 1 5) 2 5) 3 5) 4 0))), (qmK, .inl (cy 3, 8, .inr (.inr (.inr (.inr (fun i => if i < 8 then some (rK i) else none)))))), (rK 0, .inl (cy 0, 8, .inl (upd (upd (fun _ => 0) 0 0) 1 0)))] := hD
  refine lv_iinc (v := 2) (lv' := [(1, .int 2), (0, .ref qm)]) hx hb dX6_newOne_68 hl (k := 0) rfl (by decide) (by decide) rfl (fun ls hl => ?_)
  refine lv_goto (tgt := 50) hx hb dX6_newOne_71 (by decide) ?_
  refine lv_iload_n hx hb dX6_newOne_50 rfl (lv_at hl 0 rfl) ?_
  refine lv_bipush (v := 8) hx hb dX6_newOne_51 (by decide) ?_
  refine lv_icmp_ge (tgt := 74) hx hb dX6_newOne_53 (by decide) (fun h9 => absurd h9 (by decide)) (fun _ => ?_)
  refine lv_aload_n hx hb dX6_newOne_56 rfl (lv_at hl 1 rfl) ?_
  refine va_get (D := G) (ci := 5) (v := .ref qmK) (C := RX6) (T := TX6) (N := 35) hx hb hts iX_X6 hown hK hP 0 rfl rfl 14 (by decide) (hts _ m_t864) (fun _ h9 => h9) rfl dX6_newOne_57 ?_
  refine lv_aload_n hx hb dX6_newOne_60 rfl (lv_at hl 1 rfl) ?_
  refine va_get (D := G) (ci := 5) (v := .int 0) (C := RX6) (T := TX6) (N := 35) hx hb hts iX_X6 hown hK hP 0 rfl rfl 12 (by decide) (hts _ m_t862) (fun _ h9 => h9) rfl dX6_newOne_61 ?_
  refine va_alda hx hb hK hP 3 3 rfl rfl (in_c rfl) dX6_newOne_64 ?_
  refine lv_setv (v := .ref (rK 0)) (rfl) ?_
  refine lv_iload_n hx hb dX6_newOne_65 rfl (lv_at hl 0 rfl) ?_
  refine lv_iconst (v := 0) hx hb dX6_newOne_66 (by decide) ?_
  refine va_iast hx hb hK hP hD hS 4 0 rfl rfl (in_c rfl) dX6_newOne_67 (fun H locs hP hD hS => ?_)
  have hP : va_P G CL [(qm, .inr (5, [v1, v2, v3, v4, v5, v6, v7, v8, v9, v10, v11, v12, .int 0, .ref qmO, .ref qmK, v13, v14, v15, v16, v17, v18, v19, v20, v21, v22, v23, v24, v25, v26, v27, v28, v29, v30, v31, v32])), (qmO, .inl (cy 3, 8, .inr (.inr (.inr (.inr (fun i => if i < 8 then some (rO i) else none)))))), (rO 0, .inl (cy 0, 5, .inl (upd (upd (upd (upd (fun _ => 0) 1 5) 2 5) 3 5) 4 0))), (qmK, .inl (cy 3, 8, .inr (.inr (.inr (.inr (fun i => if i < 8 then some (rK i) else none)))))), (rK 0, .inl (cy 0, 8, .inl (upd (upd (upd (fun _ => 0) 0 0) 1 0) 2 0)))] H := hP
  have hD : va_D A [(qm, .inr (5, [v1, v2, v3, v4, v5, v6, v7, v8, v9, v10, v11, v12, .int 0, .ref qmO, .ref qmK, v13, v14, v15, v16, v17, v18, v19, v20, v21, v22, v23, v24, v25, v26, v27, v28, v29, v30, v31, v32])), (qmO, .inl (cy 3, 8, .inr (.inr (.inr (.inr (fun i => if i < 8 then some (rO i) else none)))))), (rO 0, .inl (cy 0, 5, .inl (upd (upd (upd (upd (fun _ => 0) 1 5) 2 5) 3 5) 4 0))), (qmK, .inl (cy 3, 8, .inr (.inr (.inr (.inr (fun i => if i < 8 then some (rK i) else none)))))), (rK 0, .inl (cy 0, 8, .inl (upd (upd (upd (fun _ => 0) 0 0) 1 0) 2 0)))] := hD
  refine lv_iinc (v := 3) (lv' := [(1, .int 3), (0, .ref qm)]) hx hb dX6_newOne_68 hl (k := 0) rfl (by decide) (by decide) rfl (fun ls hl => ?_)
  refine lv_goto (tgt := 50) hx hb dX6_newOne_71 (by decide) ?_
  refine lv_iload_n hx hb dX6_newOne_50 rfl (lv_at hl 0 rfl) ?_
  refine lv_bipush (v := 8) hx hb dX6_newOne_51 (by decide) ?_
  refine lv_icmp_ge (tgt := 74) hx hb dX6_newOne_53 (by decide) (fun h9 => absurd h9 (by decide)) (fun _ => ?_)
  refine lv_aload_n hx hb dX6_newOne_56 rfl (lv_at hl 1 rfl) ?_
  refine va_get (D := G) (ci := 5) (v := .ref qmK) (C := RX6) (T := TX6) (N := 35) hx hb hts iX_X6 hown hK hP 0 rfl rfl 14 (by decide) (hts _ m_t864) (fun _ h9 => h9) rfl dX6_newOne_57 ?_
  refine lv_aload_n hx hb dX6_newOne_60 rfl (lv_at hl 1 rfl) ?_
  refine va_get (D := G) (ci := 5) (v := .int 0) (C := RX6) (T := TX6) (N := 35) hx hb hts iX_X6 hown hK hP 0 rfl rfl 12 (by decide) (hts _ m_t862) (fun _ h9 => h9) rfl dX6_newOne_61 ?_
  refine va_alda hx hb hK hP 3 3 rfl rfl (in_c rfl) dX6_newOne_64 ?_
  refine lv_setv (v := .ref (rK 0)) (rfl) ?_
  refine lv_iload_n hx hb dX6_newOne_65 rfl (lv_at hl 0 rfl) ?_
  refine lv_iconst (v := 0) hx hb dX6_newOne_66 (by decide) ?_
  refine va_iast hx hb hK hP hD hS 4 0 rfl rfl (in_c rfl) dX6_newOne_67 (fun H locs hP hD hS => ?_)
  have hP : va_P G CL [(qm, .inr (5, [v1, v2, v3, v4, v5, v6, v7, v8, v9, v10, v11, v12, .int 0, .ref qmO, .ref qmK, v13, v14, v15, v16, v17, v18, v19, v20, v21, v22, v23, v24, v25, v26, v27, v28, v29, v30, v31, v32])), (qmO, .inl (cy 3, 8, .inr (.inr (.inr (.inr (fun i => if i < 8 then some (rO i) else none)))))), (rO 0, .inl (cy 0, 5, .inl (upd (upd (upd (upd (fun _ => 0) 1 5) 2 5) 3 5) 4 0))), (qmK, .inl (cy 3, 8, .inr (.inr (.inr (.inr (fun i => if i < 8 then some (rK i) else none)))))), (rK 0, .inl (cy 0, 8, .inl (upd (upd (upd (upd (fun _ => 0) 0 0) 1 0) 2 0) 3 0)))] H := hP
  have hD : va_D A [(qm, .inr (5, [v1, v2, v3, v4, v5, v6, v7, v8, v9, v10, v11, v12, .int 0, .ref qmO, .ref qmK, v13, v14, v15, v16, v17, v18, v19, v20, v21, v22, v23, v24, v25, v26, v27, v28, v29, v30, v31, v32])), (qmO, .inl (cy 3, 8, .inr (.inr (.inr (.inr (fun i => if i < 8 then some (rO i) else none)))))), (rO 0, .inl (cy 0, 5, .inl (upd (upd (upd (upd (fun _ => 0) 1 5) 2 5) 3 5) 4 0))), (qmK, .inl (cy 3, 8, .inr (.inr (.inr (.inr (fun i => if i < 8 then some (rK i) else none)))))), (rK 0, .inl (cy 0, 8, .inl (upd (upd (upd (upd (fun _ => 0) 0 0) 1 0) 2 0) 3 0)))] := hD
  refine lv_iinc (v := 4) (lv' := [(1, .int 4), (0, .ref qm)]) hx hb dX6_newOne_68 hl (k := 0) rfl (by decide) (by decide) rfl (fun ls hl => ?_)
  refine lv_goto (tgt := 50) hx hb dX6_newOne_71 (by decide) ?_
  refine lv_iload_n hx hb dX6_newOne_50 rfl (lv_at hl 0 rfl) ?_
  refine lv_bipush (v := 8) hx hb dX6_newOne_51 (by decide) ?_
  refine lv_icmp_ge (tgt := 74) hx hb dX6_newOne_53 (by decide) (fun h9 => absurd h9 (by decide)) (fun _ => ?_)
  refine lv_aload_n hx hb dX6_newOne_56 rfl (lv_at hl 1 rfl) ?_
  refine va_get (D := G) (ci := 5) (v := .ref qmK) (C := RX6) (T := TX6) (N := 35) hx hb hts iX_X6 hown hK hP 0 rfl rfl 14 (by decide) (hts _ m_t864) (fun _ h9 => h9) rfl dX6_newOne_57 ?_
  refine lv_aload_n hx hb dX6_newOne_60 rfl (lv_at hl 1 rfl) ?_
  refine va_get (D := G) (ci := 5) (v := .int 0) (C := RX6) (T := TX6) (N := 35) hx hb hts iX_X6 hown hK hP 0 rfl rfl 12 (by decide) (hts _ m_t862) (fun _ h9 => h9) rfl dX6_newOne_61 ?_
  refine va_alda hx hb hK hP 3 3 rfl rfl (in_c rfl) dX6_newOne_64 ?_
  refine lv_setv (v := .ref (rK 0)) (rfl) ?_
  refine lv_iload_n hx hb dX6_newOne_65 rfl (lv_at hl 0 rfl) ?_
  refine lv_iconst (v := 0) hx hb dX6_newOne_66 (by decide) ?_
  refine va_iast hx hb hK hP hD hS 4 0 rfl rfl (in_c rfl) dX6_newOne_67 (fun H locs hP hD hS => ?_)
  have hP : va_P G CL [(qm, .inr (5, [v1, v2, v3, v4, v5, v6, v7, v8, v9, v10, v11, v12, .int 0, .ref qmO, .ref qmK, v13, v14, v15, v16, v17, v18, v19, v20, v21, v22, v23, v24, v25, v26, v27, v28, v29, v30, v31, v32])), (qmO, .inl (cy 3, 8, .inr (.inr (.inr (.inr (fun i => if i < 8 then some (rO i) else none)))))), (rO 0, .inl (cy 0, 5, .inl (upd (upd (upd (upd (fun _ => 0) 1 5) 2 5) 3 5) 4 0))), (qmK, .inl (cy 3, 8, .inr (.inr (.inr (.inr (fun i => if i < 8 then some (rK i) else none)))))), (rK 0, .inl (cy 0, 8, .inl (upd (upd (upd (upd (upd (fun _ => 0) 0 0) 1 0) 2 0) 3 0) 4 0)))] H := hP
  have hD : va_D A [(qm, .inr (5, [v1, v2, v3, v4, v5, v6, v7, v8, v9, v10, v11, v12, .int 0, .ref qmO, .ref qmK, v13, v14, v15, v16, v17, v18, v19, v20, v21, v22, v23, v24, v25, v26, v27, v28, v29, v30, v31, v32])), (qmO, .inl (cy 3, 8, .inr (.inr (.inr (.inr (fun i => if i < 8 then some (rO i) else none)))))), (rO 0, .inl (cy 0, 5, .inl (upd (upd (upd (upd (fun _ => 0) 1 5) 2 5) 3 5) 4 0))), (qmK, .inl (cy 3, 8, .inr (.inr (.inr (.inr (fun i => if i < 8 then some (rK i) else none)))))), (rK 0, .inl (cy 0, 8, .inl (upd (upd (upd (upd (upd (fun _ => 0) 0 0) 1 0) 2 0) 3 0) 4 0)))] := hD
  refine lv_iinc (v := 5) (lv' := [(1, .int 5), (0, .ref qm)]) hx hb dX6_newOne_68 hl (k := 0) rfl (by decide) (by decide) rfl (fun ls hl => ?_)
  refine lv_goto (tgt := 50) hx hb dX6_newOne_71 (by decide) ?_
  refine lv_iload_n hx hb dX6_newOne_50 rfl (lv_at hl 0 rfl) ?_
  refine lv_bipush (v := 8) hx hb dX6_newOne_51 (by decide) ?_
  refine lv_icmp_ge (tgt := 74) hx hb dX6_newOne_53 (by decide) (fun h9 => absurd h9 (by decide)) (fun _ => ?_)
  refine lv_aload_n hx hb dX6_newOne_56 rfl (lv_at hl 1 rfl) ?_
  refine va_get (D := G) (ci := 5) (v := .ref qmK) (C := RX6) (T := TX6) (N := 35) hx hb hts iX_X6 hown hK hP 0 rfl rfl 14 (by decide) (hts _ m_t864) (fun _ h9 => h9) rfl dX6_newOne_57 ?_
  refine lv_aload_n hx hb dX6_newOne_60 rfl (lv_at hl 1 rfl) ?_
  refine va_get (D := G) (ci := 5) (v := .int 0) (C := RX6) (T := TX6) (N := 35) hx hb hts iX_X6 hown hK hP 0 rfl rfl 12 (by decide) (hts _ m_t862) (fun _ h9 => h9) rfl dX6_newOne_61 ?_
  refine va_alda hx hb hK hP 3 3 rfl rfl (in_c rfl) dX6_newOne_64 ?_
  refine lv_setv (v := .ref (rK 0)) (rfl) ?_
  refine lv_iload_n hx hb dX6_newOne_65 rfl (lv_at hl 0 rfl) ?_
  refine lv_iconst (v := 0) hx hb dX6_newOne_66 (by decide) ?_
  refine va_iast hx hb hK hP hD hS 4 0 rfl rfl (in_c rfl) dX6_newOne_67 (fun H locs hP hD hS => ?_)
  have hP : va_P G CL [(qm, .inr (5, [v1, v2, v3, v4, v5, v6, v7, v8, v9, v10, v11, v12, .int 0, .ref qmO, .ref qmK, v13, v14, v15, v16, v17, v18, v19, v20, v21, v22, v23, v24, v25, v26, v27, v28, v29, v30, v31, v32])), (qmO, .inl (cy 3, 8, .inr (.inr (.inr (.inr (fun i => if i < 8 then some (rO i) else none)))))), (rO 0, .inl (cy 0, 5, .inl (upd (upd (upd (upd (fun _ => 0) 1 5) 2 5) 3 5) 4 0))), (qmK, .inl (cy 3, 8, .inr (.inr (.inr (.inr (fun i => if i < 8 then some (rK i) else none)))))), (rK 0, .inl (cy 0, 8, .inl (upd (upd (upd (upd (upd (upd (fun _ => 0) 0 0) 1 0) 2 0) 3 0) 4 0) 5 0)))] H := hP
  have hD : va_D A [(qm, .inr (5, [v1, v2, v3, v4, v5, v6, v7, v8, v9, v10, v11, v12, .int 0, .ref qmO, .ref qmK, v13, v14, v15, v16, v17, v18, v19, v20, v21, v22, v23, v24, v25, v26, v27, v28, v29, v30, v31, v32])), (qmO, .inl (cy 3, 8, .inr (.inr (.inr (.inr (fun i => if i < 8 then some (rO i) else none)))))), (rO 0, .inl (cy 0, 5, .inl (upd (upd (upd (upd (fun _ => 0) 1 5) 2 5) 3 5) 4 0))), (qmK, .inl (cy 3, 8, .inr (.inr (.inr (.inr (fun i => if i < 8 then some (rK i) else none)))))), (rK 0, .inl (cy 0, 8, .inl (upd (upd (upd (upd (upd (upd (fun _ => 0) 0 0) 1 0) 2 0) 3 0) 4 0) 5 0)))] := hD
  refine lv_iinc (v := 6) (lv' := [(1, .int 6), (0, .ref qm)]) hx hb dX6_newOne_68 hl (k := 0) rfl (by decide) (by decide) rfl (fun ls hl => ?_)
  refine lv_goto (tgt := 50) hx hb dX6_newOne_71 (by decide) ?_
  refine lv_iload_n hx hb dX6_newOne_50 rfl (lv_at hl 0 rfl) ?_
  refine lv_bipush (v := 8) hx hb dX6_newOne_51 (by decide) ?_
  refine lv_icmp_ge (tgt := 74) hx hb dX6_newOne_53 (by decide) (fun h9 => absurd h9 (by decide)) (fun _ => ?_)
  refine lv_aload_n hx hb dX6_newOne_56 rfl (lv_at hl 1 rfl) ?_
  refine va_get (D := G) (ci := 5) (v := .ref qmK) (C := RX6) (T := TX6) (N := 35) hx hb hts iX_X6 hown hK hP 0 rfl rfl 14 (by decide) (hts _ m_t864) (fun _ h9 => h9) rfl dX6_newOne_57 ?_
  refine lv_aload_n hx hb dX6_newOne_60 rfl (lv_at hl 1 rfl) ?_
  refine va_get (D := G) (ci := 5) (v := .int 0) (C := RX6) (T := TX6) (N := 35) hx hb hts iX_X6 hown hK hP 0 rfl rfl 12 (by decide) (hts _ m_t862) (fun _ h9 => h9) rfl dX6_newOne_61 ?_
  refine va_alda hx hb hK hP 3 3 rfl rfl (in_c rfl) dX6_newOne_64 ?_
  refine lv_setv (v := .ref (rK 0)) (rfl) ?_
  refine lv_iload_n hx hb dX6_newOne_65 rfl (lv_at hl 0 rfl) ?_
  refine lv_iconst (v := 0) hx hb dX6_newOne_66 (by decide) ?_
  refine va_iast hx hb hK hP hD hS 4 0 rfl rfl (in_c rfl) dX6_newOne_67 (fun H locs hP hD hS => ?_)
  have hP : va_P G CL [(qm, .inr (5, [v1, v2, v3, v4, v5, v6, v7, v8, v9, v10, v11, v12, .int 0, .ref qmO, .ref qmK, v13, v14, v15, v16, v17, v18, v19, v20, v21, v22, v23, v24, v25, v26, v27, v28, v29, v30, v31, v32])), (qmO, .inl (cy 3, 8, .inr (.inr (.inr (.inr (fun i => if i < 8 then some (rO i) else none)))))), (rO 0, .inl (cy 0, 5, .inl (upd (upd (upd (upd (fun _ => 0) 1 5) 2 5) 3 5) 4 0))), (qmK, .inl (cy 3, 8, .inr (.inr (.inr (.inr (fun i => if i < 8 then some (rK i) else none)))))), (rK 0, .inl (cy 0, 8, .inl (upd (upd (upd (upd (upd (upd (upd (fun _ => 0) 0 0) 1 0) 2 0) 3 0) 4 0) 5 0) 6 0)))] H := hP
  have hD : va_D A [(qm, .inr (5, [v1, v2, v3, v4, v5, v6, v7, v8, v9, v10, v11, v12, .int 0, .ref qmO, .ref qmK, v13, v14, v15, v16, v17, v18, v19, v20, v21, v22, v23, v24, v25, v26, v27, v28, v29, v30, v31, v32])), (qmO, .inl (cy 3, 8, .inr (.inr (.inr (.inr (fun i => if i < 8 then some (rO i) else none)))))), (rO 0, .inl (cy 0, 5, .inl (upd (upd (upd (upd (fun _ => 0) 1 5) 2 5) 3 5) 4 0))), (qmK, .inl (cy 3, 8, .inr (.inr (.inr (.inr (fun i => if i < 8 then some (rK i) else none)))))), (rK 0, .inl (cy 0, 8, .inl (upd (upd (upd (upd (upd (upd (upd (fun _ => 0) 0 0) 1 0) 2 0) 3 0) 4 0) 5 0) 6 0)))] := hD
  refine lv_iinc (v := 7) (lv' := [(1, .int 7), (0, .ref qm)]) hx hb dX6_newOne_68 hl (k := 0) rfl (by decide) (by decide) rfl (fun ls hl => ?_)
  refine lv_goto (tgt := 50) hx hb dX6_newOne_71 (by decide) ?_
  refine lv_iload_n hx hb dX6_newOne_50 rfl (lv_at hl 0 rfl) ?_
  refine lv_bipush (v := 8) hx hb dX6_newOne_51 (by decide) ?_
  refine lv_icmp_ge (tgt := 74) hx hb dX6_newOne_53 (by decide) (fun h9 => absurd h9 (by decide)) (fun _ => ?_)
  refine lv_aload_n hx hb dX6_newOne_56 rfl (lv_at hl 1 rfl) ?_
  refine va_get (D := G) (ci := 5) (v := .ref qmK) (C := RX6) (T := TX6) (N := 35) hx hb hts iX_X6 hown hK hP 0 rfl rfl 14 (by decide) (hts _ m_t864) (fun _ h9 => h9) rfl dX6_newOne_57 ?_
  refine lv_aload_n hx hb dX6_newOne_60 rfl (lv_at hl 1 rfl) ?_
  refine va_get (D := G) (ci := 5) (v := .int 0) (C := RX6) (T := TX6) (N := 35) hx hb hts iX_X6 hown hK hP 0 rfl rfl 12 (by decide) (hts _ m_t862) (fun _ h9 => h9) rfl dX6_newOne_61 ?_
  refine va_alda hx hb hK hP 3 3 rfl rfl (in_c rfl) dX6_newOne_64 ?_
  refine lv_setv (v := .ref (rK 0)) (rfl) ?_
  refine lv_iload_n hx hb dX6_newOne_65 rfl (lv_at hl 0 rfl) ?_
  refine lv_iconst (v := 0) hx hb dX6_newOne_66 (by decide) ?_
  refine va_iast hx hb hK hP hD hS 4 0 rfl rfl (in_c rfl) dX6_newOne_67 (fun H locs hP hD hS => ?_)
  have hP : va_P G CL [(qm, .inr (5, [v1, v2, v3, v4, v5, v6, v7, v8, v9, v10, v11, v12, .int 0, .ref qmO, .ref qmK, v13, v14, v15, v16, v17, v18, v19, v20, v21, v22, v23, v24, v25, v26, v27, v28, v29, v30, v31, v32])), (qmO, .inl (cy 3, 8, .inr (.inr (.inr (.inr (fun i => if i < 8 then some (rO i) else none)))))), (rO 0, .inl (cy 0, 5, .inl (upd (upd (upd (upd (fun _ => 0) 1 5) 2 5) 3 5) 4 0))), (qmK, .inl (cy 3, 8, .inr (.inr (.inr (.inr (fun i => if i < 8 then some (rK i) else none)))))), (rK 0, .inl (cy 0, 8, .inl (upd (upd (upd (upd (upd (upd (upd (upd (fun _ => 0) 0 0) 1 0) 2 0) 3 0) 4 0) 5 0) 6 0) 7 0)))] H := hP
  have hD : va_D A [(qm, .inr (5, [v1, v2, v3, v4, v5, v6, v7, v8, v9, v10, v11, v12, .int 0, .ref qmO, .ref qmK, v13, v14, v15, v16, v17, v18, v19, v20, v21, v22, v23, v24, v25, v26, v27, v28, v29, v30, v31, v32])), (qmO, .inl (cy 3, 8, .inr (.inr (.inr (.inr (fun i => if i < 8 then some (rO i) else none)))))), (rO 0, .inl (cy 0, 5, .inl (upd (upd (upd (upd (fun _ => 0) 1 5) 2 5) 3 5) 4 0))), (qmK, .inl (cy 3, 8, .inr (.inr (.inr (.inr (fun i => if i < 8 then some (rK i) else none)))))), (rK 0, .inl (cy 0, 8, .inl (upd (upd (upd (upd (upd (upd (upd (upd (fun _ => 0) 0 0) 1 0) 2 0) 3 0) 4 0) 5 0) 6 0) 7 0)))] := hD
  refine lv_iinc (v := 8) (lv' := [(1, .int 8), (0, .ref qm)]) hx hb dX6_newOne_68 hl (k := 0) rfl (by decide) (by decide) rfl (fun ls hl => ?_)
  refine lv_goto (tgt := 50) hx hb dX6_newOne_71 (by decide) ?_
  refine lv_iload_n hx hb dX6_newOne_50 rfl (lv_at hl 0 rfl) ?_
  refine lv_bipush (v := 8) hx hb dX6_newOne_51 (by decide) ?_
  refine lv_icmp_ge (tgt := 74) hx hb dX6_newOne_53 (by decide) (fun _ => ?_) (fun h9 => absurd (by decide) h9)
  exact endV (u := []) hx hb hr hlocks va_P0 va_D0 hS rfl dX6_newOne_74
end
section
theorem dX0_init_0 : decode cX0_init 0 = .ok (.aload_n 0, 1) := by decide +kernel
theorem dX0_init_1 : decode cX0_init 1 = .ok (.invokespecial 3, 3) := by decide +kernel
theorem dX0_init_4 : decode cX0_init 4 = .ok (.aload_n 0, 1) := by decide +kernel
theorem dX0_init_5 : decode cX0_init 5 = .ok (.new 9, 3) := by decide +kernel
theorem dX0_init_8 : decode cX0_init 8 = .ok (.dup, 1) := by decide +kernel
theorem dX0_init_9 : decode cX0_init 9 = .ok (.invokespecial 11, 3) := by decide +kernel
theorem dX0_init_12 : decode cX0_init 12 = .ok (.putfield 12, 3) := by decide +kernel
theorem dX0_init_15 : decode cX0_init 15 = .ok (.aload_n 0, 1) := by decide +kernel
theorem dX0_init_16 : decode cX0_init 16 = .ok (.new 9, 3) := by decide +kernel
theorem dX0_init_19 : decode cX0_init 19 = .ok (.dup, 1) := by decide +kernel
theorem dX0_init_20 : decode cX0_init 20 = .ok (.invokespecial 11, 3) := by decide +kernel
theorem dX0_init_23 : decode cX0_init 23 = .ok (.putfield 18, 3) := by decide +kernel
theorem dX0_init_26 : decode cX0_init 26 = .ok (.return_, 1) := by decide +kernel
theorem dX2_init_0 : decode cX2_init 0 = .ok (.aload_n 0, 1) := by decide +kernel
theorem dX2_init_1 : decode cX2_init 1 = .ok (.invokespecial 3, 3) := by decide +kernel
theorem dX2_init_4 : decode cX2_init 4 = .ok (.aload_n 0, 1) := by decide +kernel
theorem dX2_init_5 : decode cX2_init 5 = .ok (.bipush 8, 2) := by decide +kernel
theorem dX2_init_7 : decode cX2_init 7 = .ok (.newarray .int, 2) := by decide +kernel
theorem dX2_init_9 : decode cX2_init 9 = .ok (.putfield 9, 3) := by decide +kernel
theorem dX2_init_12 : decode cX2_init 12 = .ok (.aload_n 0, 1) := by decide +kernel
theorem dX2_init_13 : decode cX2_init 13 = .ok (.bipush 8, 2) := by decide +kernel
theorem dX2_init_15 : decode cX2_init 15 = .ok (.newarray .int, 2) := by decide +kernel
theorem dX2_init_17 : decode cX2_init 17 = .ok (.putfield 15, 3) := by decide +kernel
theorem dX2_init_20 : decode cX2_init 20 = .ok (.aload_n 0, 1) := by decide +kernel
theorem dX2_init_21 : decode cX2_init 21 = .ok (.bipush 8, 2) := by decide +kernel
theorem dX2_init_23 : decode cX2_init 23 = .ok (.newarray .int, 2) := by decide +kernel
theorem dX2_init_25 : decode cX2_init 25 = .ok (.putfield 18, 3) := by decide +kernel
theorem dX2_init_28 : decode cX2_init 28 = .ok (.aload_n 0, 1) := by decide +kernel
theorem dX2_init_29 : decode cX2_init 29 = .ok (.sipush 320, 3) := by decide +kernel
theorem dX2_init_32 : decode cX2_init 32 = .ok (.newarray .long, 2) := by decide +kernel
theorem dX2_init_34 : decode cX2_init 34 = .ok (.putfield 21, 3) := by decide +kernel
theorem dX2_init_37 : decode cX2_init 37 = .ok (.iconst 0, 1) := by decide +kernel
theorem dX2_init_38 : decode cX2_init 38 = .ok (.istore_n 1, 1) := by decide +kernel
theorem dX2_init_39 : decode cX2_init 39 = .ok (.iload_n 1, 1) := by decide +kernel
theorem dX2_init_40 : decode cX2_init 40 = .ok (.bipush 8, 2) := by decide +kernel
theorem dX2_init_42 : decode cX2_init 42 = .ok (.if_icmp .ge 16, 3) := by decide +kernel
theorem dX2_init_45 : decode cX2_init 45 = .ok (.aload_n 0, 1) := by decide +kernel
theorem dX2_init_46 : decode cX2_init 46 = .ok (.getfield 9, 3) := by decide +kernel
theorem dX2_init_49 : decode cX2_init 49 = .ok (.iload_n 1, 1) := by decide +kernel
theorem dX2_init_50 : decode cX2_init 50 = .ok (.iconst (-1), 1) := by decide +kernel
theorem dX2_init_51 : decode cX2_init 51 = .ok (.iastore, 1) := by decide +kernel
theorem dX2_init_52 : decode cX2_init 52 = .ok (.iinc 1 1, 3) := by decide +kernel
theorem dX2_init_55 : decode cX2_init 55 = .ok (.goto (-16), 3) := by decide +kernel
theorem dX2_init_58 : decode cX2_init 58 = .ok (.return_, 1) := by decide +kernel
theorem dX3_init_0 : decode cX3_init 0 = .ok (.aload_n 0, 1) := by decide +kernel
theorem dX3_init_1 : decode cX3_init 1 = .ok (.invokespecial 3, 3) := by decide +kernel
theorem dX3_init_4 : decode cX3_init 4 = .ok (.aload_n 0, 1) := by decide +kernel
theorem dX3_init_5 : decode cX3_init 5 = .ok (.sipush 250, 3) := by decide +kernel
theorem dX3_init_8 : decode cX3_init 8 = .ok (.newarray .byte, 2) := by decide +kernel
theorem dX3_init_10 : decode cX3_init 10 = .ok (.putfield 11, 3) := by decide +kernel
theorem dX3_init_13 : decode cX3_init 13 = .ok (.aload_n 0, 1) := by decide +kernel
theorem dX3_init_14 : decode cX3_init 14 = .ok (.new 15, 3) := by decide +kernel
theorem dX3_init_17 : decode cX3_init 17 = .ok (.dup, 1) := by decide +kernel
theorem dX3_init_18 : decode cX3_init 18 = .ok (.invokespecial 17, 3) := by decide +kernel
theorem dX3_init_21 : decode cX3_init 21 = .ok (.putfield 18, 3) := by decide +kernel
theorem dX3_init_24 : decode cX3_init 24 = .ok (.return_, 1) := by decide +kernel
theorem dX4_init_0 : decode cX4_init 0 = .ok (.aload_n 0, 1) := by decide +kernel
theorem dX4_init_1 : decode cX4_init 1 = .ok (.invokespecial 3, 3) := by decide +kernel
theorem dX4_init_4 : decode cX4_init 4 = .ok (.aload_n 0, 1) := by decide +kernel
theorem dX4_init_5 : decode cX4_init 5 = .ok (.iconst 1, 1) := by decide +kernel
theorem dX4_init_6 : decode cX4_init 6 = .ok (.putfield 9, 3) := by decide +kernel
theorem dX4_init_9 : decode cX4_init 9 = .ok (.aload_n 0, 1) := by decide +kernel
theorem dX4_init_10 : decode cX4_init 10 = .ok (.bipush 8, 2) := by decide +kernel
theorem dX4_init_12 : decode cX4_init 12 = .ok (.newarray .int, 2) := by decide +kernel
theorem dX4_init_14 : decode cX4_init 14 = .ok (.putfield 15, 3) := by decide +kernel
theorem dX4_init_17 : decode cX4_init 17 = .ok (.aload_n 0, 1) := by decide +kernel
theorem dX4_init_18 : decode cX4_init 18 = .ok (.bipush 8, 2) := by decide +kernel
theorem dX4_init_20 : decode cX4_init 20 = .ok (.newarray .int, 2) := by decide +kernel
theorem dX4_init_22 : decode cX4_init 22 = .ok (.putfield 19, 3) := by decide +kernel
theorem dX4_init_25 : decode cX4_init 25 = .ok (.aload_n 0, 1) := by decide +kernel
theorem dX4_init_26 : decode cX4_init 26 = .ok (.bipush 8, 2) := by decide +kernel
theorem dX4_init_28 : decode cX4_init 28 = .ok (.newarray .int, 2) := by decide +kernel
theorem dX4_init_30 : decode cX4_init 30 = .ok (.putfield 22, 3) := by decide +kernel
theorem dX4_init_33 : decode cX4_init 33 = .ok (.aload_n 0, 1) := by decide +kernel
theorem dX4_init_34 : decode cX4_init 34 = .ok (.bipush 8, 2) := by decide +kernel
theorem dX4_init_36 : decode cX4_init 36 = .ok (.newarray .int, 2) := by decide +kernel
theorem dX4_init_38 : decode cX4_init 38 = .ok (.putfield 25, 3) := by decide +kernel
theorem dX4_init_41 : decode cX4_init 41 = .ok (.aload_n 0, 1) := by decide +kernel
theorem dX4_init_42 : decode cX4_init 42 = .ok (.bipush 8, 2) := by decide +kernel
theorem dX4_init_44 : decode cX4_init 44 = .ok (.newarray .int, 2) := by decide +kernel
theorem dX4_init_46 : decode cX4_init 46 = .ok (.putfield 28, 3) := by decide +kernel
theorem dX4_init_49 : decode cX4_init 49 = .ok (.aload_n 0, 1) := by decide +kernel
theorem dX4_init_50 : decode cX4_init 50 = .ok (.bipush 8, 2) := by decide +kernel
theorem dX4_init_52 : decode cX4_init 52 = .ok (.newarray .int, 2) := by decide +kernel
theorem dX4_init_54 : decode cX4_init 54 = .ok (.putfield 31, 3) := by decide +kernel
theorem dX4_init_57 : decode cX4_init 57 = .ok (.aload_n 0, 1) := by decide +kernel
theorem dX4_init_58 : decode cX4_init 58 = .ok (.bipush 8, 2) := by decide +kernel
theorem dX4_init_60 : decode cX4_init 60 = .ok (.newarray .int, 2) := by decide +kernel
theorem dX4_init_62 : decode cX4_init 62 = .ok (.putfield 34, 3) := by decide +kernel
theorem dX4_init_65 : decode cX4_init 65 = .ok (.aload_n 0, 1) := by decide +kernel
theorem dX4_init_66 : decode cX4_init 66 = .ok (.bipush 64, 2) := by decide +kernel
theorem dX4_init_68 : decode cX4_init 68 = .ok (.newarray .int, 2) := by decide +kernel
theorem dX4_init_70 : decode cX4_init 70 = .ok (.putfield 37, 3) := by decide +kernel
theorem dX4_init_73 : decode cX4_init 73 = .ok (.return_, 1) := by decide +kernel
theorem dX5_init_0 : decode cX5_init 0 = .ok (.aload_n 0, 1) := by decide +kernel
theorem dX5_init_1 : decode cX5_init 1 = .ok (.invokespecial 1, 3) := by decide +kernel
theorem dX5_init_4 : decode cX5_init 4 = .ok (.aload_n 0, 1) := by decide +kernel
theorem dX5_init_5 : decode cX5_init 5 = .ok (.new 7, 3) := by decide +kernel
theorem dX5_init_8 : decode cX5_init 8 = .ok (.dup, 1) := by decide +kernel
theorem dX5_init_9 : decode cX5_init 9 = .ok (.invokespecial 9, 3) := by decide +kernel
theorem dX5_init_12 : decode cX5_init 12 = .ok (.putfield 10, 3) := by decide +kernel
theorem dX5_init_15 : decode cX5_init 15 = .ok (.aload_n 0, 1) := by decide +kernel
theorem dX5_init_16 : decode cX5_init 16 = .ok (.new 7, 3) := by decide +kernel
theorem dX5_init_19 : decode cX5_init 19 = .ok (.dup, 1) := by decide +kernel
theorem dX5_init_20 : decode cX5_init 20 = .ok (.invokespecial 9, 3) := by decide +kernel
theorem dX5_init_23 : decode cX5_init 23 = .ok (.putfield 16, 3) := by decide +kernel
theorem dX5_init_26 : decode cX5_init 26 = .ok (.aload_n 0, 1) := by decide +kernel
theorem dX5_init_27 : decode cX5_init 27 = .ok (.new 19, 3) := by decide +kernel
theorem dX5_init_30 : decode cX5_init 30 = .ok (.dup, 1) := by decide +kernel
theorem dX5_init_31 : decode cX5_init 31 = .ok (.invokespecial 21, 3) := by decide +kernel
theorem dX5_init_34 : decode cX5_init 34 = .ok (.putfield 22, 3) := by decide +kernel
theorem dX5_init_37 : decode cX5_init 37 = .ok (.aload_n 0, 1) := by decide +kernel
theorem dX5_init_38 : decode cX5_init 38 = .ok (.new 26, 3) := by decide +kernel
theorem dX5_init_41 : decode cX5_init 41 = .ok (.dup, 1) := by decide +kernel
theorem dX5_init_42 : decode cX5_init 42 = .ok (.invokespecial 28, 3) := by decide +kernel
theorem dX5_init_45 : decode cX5_init 45 = .ok (.putfield 29, 3) := by decide +kernel
theorem dX5_init_48 : decode cX5_init 48 = .ok (.aload_n 0, 1) := by decide +kernel
theorem dX5_init_49 : decode cX5_init 49 = .ok (.new 33, 3) := by decide +kernel
theorem dX5_init_52 : decode cX5_init 52 = .ok (.dup, 1) := by decide +kernel
theorem dX5_init_53 : decode cX5_init 53 = .ok (.invokespecial 35, 3) := by decide +kernel
theorem dX5_init_56 : decode cX5_init 56 = .ok (.putfield 36, 3) := by decide +kernel
theorem dX5_init_59 : decode cX5_init 59 = .ok (.aload_n 0, 1) := by decide +kernel
theorem dX5_init_60 : decode cX5_init 60 = .ok (.iconst 5, 1) := by decide +kernel
theorem dX5_init_61 : decode cX5_init 61 = .ok (.newarray .int, 2) := by decide +kernel
theorem dX5_init_63 : decode cX5_init 63 = .ok (.putfield 40, 3) := by decide +kernel
theorem dX5_init_66 : decode cX5_init 66 = .ok (.return_, 1) := by decide +kernel
theorem dX6_init_0 : decode cX6_init 0 = .ok (.aload_n 0, 1) := by decide +kernel
theorem dX6_init_1 : decode cX6_init 1 = .ok (.invokespecial 1, 3) := by decide +kernel
theorem dX6_init_4 : decode cX6_init 4 = .ok (.aload_n 0, 1) := by decide +kernel
theorem dX6_init_5 : decode cX6_init 5 = .ok (.bipush 8, 2) := by decide +kernel
theorem dX6_init_7 : decode cX6_init 7 = .ok (.newarray .int, 2) := by decide +kernel
theorem dX6_init_9 : decode cX6_init 9 = .ok (.putfield 7, 3) := by decide +kernel
theorem dX6_init_12 : decode cX6_init 12 = .ok (.aload_n 0, 1) := by decide +kernel
theorem dX6_init_13 : decode cX6_init 13 = .ok (.bipush 8, 2) := by decide +kernel
theorem dX6_init_15 : decode cX6_init 15 = .ok (.newarray .int, 2) := by decide +kernel
theorem dX6_init_17 : decode cX6_init 17 = .ok (.putfield 13, 3) := by decide +kernel
theorem dX6_init_20 : decode cX6_init 20 = .ok (.aload_n 0, 1) := by decide +kernel
theorem dX6_init_21 : decode cX6_init 21 = .ok (.bipush 8, 2) := by decide +kernel
theorem dX6_init_23 : decode cX6_init 23 = .ok (.newarray .int, 2) := by decide +kernel
theorem dX6_init_25 : decode cX6_init 25 = .ok (.putfield 16, 3) := by decide +kernel
theorem dX6_init_28 : decode cX6_init 28 = .ok (.aload_n 0, 1) := by decide +kernel
theorem dX6_init_29 : decode cX6_init 29 = .ok (.bipush 8, 2) := by decide +kernel
theorem dX6_init_31 : decode cX6_init 31 = .ok (.bipush 40, 2) := by decide +kernel
theorem dX6_init_33 : decode cX6_init 33 = .ok (.multianewarray 19 2, 4) := by decide +kernel
theorem dX6_init_37 : decode cX6_init 37 = .ok (.putfield 21, 3) := by decide +kernel
theorem dX6_init_40 : decode cX6_init 40 = .ok (.aload_n 0, 1) := by decide +kernel
theorem dX6_init_41 : decode cX6_init 41 = .ok (.bipush 40, 2) := by decide +kernel
theorem dX6_init_43 : decode cX6_init 43 = .ok (.newarray .long, 2) := by decide +kernel
theorem dX6_init_45 : decode cX6_init 45 = .ok (.putfield 24, 3) := by decide +kernel
theorem dX6_init_48 : decode cX6_init 48 = .ok (.aload_n 0, 1) := by decide +kernel
theorem dX6_init_49 : decode cX6_init 49 = .ok (.bipush 8, 2) := by decide +kernel
theorem dX6_init_51 : decode cX6_init 51 = .ok (.newarray .int, 2) := by decide +kernel
theorem dX6_init_53 : decode cX6_init 53 = .ok (.putfield 28, 3) := by decide +kernel
theorem dX6_init_56 : decode cX6_init 56 = .ok (.aload_n 0, 1) := by decide +kernel
theorem dX6_init_57 : decode cX6_init 57 = .ok (.bipush 8, 2) := by decide +kernel
theorem dX6_init_59 : decode cX6_init 59 = .ok (.newarray .int, 2) := by decide +kernel
theorem dX6_init_61 : decode cX6_init 61 = .ok (.putfield 31, 3) := by decide +kernel
theorem dX6_init_64 : decode cX6_init 64 = .ok (.aload_n 0, 1) := by decide +kernel
theorem dX6_init_65 : decode cX6_init 65 = .ok (.sipush 250, 3) := by decide +kernel
theorem dX6_init_68 : decode cX6_init 68 = .ok (.newarray .int, 2) := by decide +kernel
theorem dX6_init_70 : decode cX6_init 70 = .ok (.putfield 34, 3) := by decide +kernel
theorem dX6_init_73 : decode cX6_init 73 = .ok (.aload_n 0, 1) := by decide +kernel
theorem dX6_init_74 : decode cX6_init 74 = .ok (.bipush 8, 2) := by decide +kernel
theorem dX6_init_76 : decode cX6_init 76 = .ok (.newarray .int, 2) := by decide +kernel
theorem dX6_init_78 : decode cX6_init 78 = .ok (.putfield 37, 3) := by decide +kernel
theorem dX6_init_81 : decode cX6_init 81 = .ok (.aload_n 0, 1) := by decide +kernel
theorem dX6_init_82 : decode cX6_init 82 = .ok (.bipush 8, 2) := by decide +kernel
theorem dX6_init_84 : decode cX6_init 84 = .ok (.iconst 4, 1) := by decide +kernel
theorem dX6_init_85 : decode cX6_init 85 = .ok (.multianewarray 40 2, 4) := by decide +kernel
theorem dX6_init_89 : decode cX6_init 89 = .ok (.putfield 42, 3) := by decide +kernel
theorem dX6_init_92 : decode cX6_init 92 = .ok (.aload_n 0, 1) := by decide +kernel
theorem dX6_init_93 : decode cX6_init 93 = .ok (.bipush 8, 2) := by decide +kernel
theorem dX6_init_95 : decode cX6_init 95 = .ok (.iconst 5, 1) := by decide +kernel
theorem dX6_init_96 : decode cX6_init 96 = .ok (.multianewarray 40 2, 4) := by decide +kernel
theorem dX6_init_100 : decode cX6_init 100 = .ok (.putfield 45, 3) := by decide +kernel
theorem dX6_init_103 : decode cX6_init 103 = .ok (.aload_n 0, 1) := by decide +kernel
theorem dX6_init_104 : decode cX6_init 104 = .ok (.bipush 8, 2) := by decide +kernel
theorem dX6_init_106 : decode cX6_init 106 = .ok (.bipush 8, 2) := by decide +kernel
theorem dX6_init_108 : decode cX6_init 108 = .ok (.multianewarray 40 2, 4) := by decide +kernel
theorem dX6_init_112 : decode cX6_init 112 = .ok (.putfield 48, 3) := by decide +kernel
theorem dX6_init_115 : decode cX6_init 115 = .ok (.aload_n 0, 1) := by decide +kernel
theorem dX6_init_116 : decode cX6_init 116 = .ok (.iconst 1, 1) := by decide +kernel
theorem dX6_init_117 : decode cX6_init 117 = .ok (.putfield 51, 3) := by decide +kernel
theorem dX6_init_120 : decode cX6_init 120 = .ok (.aload_n 0, 1) := by decide +kernel
theorem dX6_init_121 : decode cX6_init 121 = .ok (.iconst 3, 1) := by decide +kernel
theorem dX6_init_122 : decode cX6_init 122 = .ok (.newarray .int, 2) := by decide +kernel
theorem dX6_init_124 : decode cX6_init 124 = .ok (.putfield 55, 3) := by decide +kernel
theorem dX6_init_127 : decode cX6_init 127 = .ok (.aload_n 0, 1) := by decide +kernel
theorem dX6_init_128 : decode cX6_init 128 = .ok (.bipush 8, 2) := by decide +kernel
theorem dX6_init_130 : decode cX6_init 130 = .ok (.newarray .int, 2) := by decide +kernel
theorem dX6_init_132 : decode cX6_init 132 = .ok (.putfield 58, 3) := by decide +kernel
theorem dX6_init_135 : decode cX6_init 135 = .ok (.aload_n 0, 1) := by decide +kernel
theorem dX6_init_136 : decode cX6_init 136 = .ok (.iconst 5, 1) := by decide +kernel
theorem dX6_init_137 : decode cX6_init 137 = .ok (.newarray .int, 2) := by decide +kernel
theorem dX6_init_139 : decode cX6_init 139 = .ok (.putfield 61, 3) := by decide +kernel
theorem dX6_init_142 : decode cX6_init 142 = .ok (.aload_n 0, 1) := by decide +kernel
theorem dX6_init_143 : decode cX6_init 143 = .ok (.iconst 5, 1) := by decide +kernel
theorem dX6_init_144 : decode cX6_init 144 = .ok (.newarray .int, 2) := by decide +kernel
theorem dX6_init_146 : decode cX6_init 146 = .ok (.putfield 64, 3) := by decide +kernel
theorem dX6_init_149 : decode cX6_init 149 = .ok (.aload_n 0, 1) := by decide +kernel
theorem dX6_init_150 : decode cX6_init 150 = .ok (.bipush 6, 2) := by decide +kernel
theorem dX6_init_152 : decode cX6_init 152 = .ok (.anewarray 8, 3) := by decide +kernel
theorem dX6_init_155 : decode cX6_init 155 = .ok (.putfield 67, 3) := by decide +kernel
theorem dX6_init_158 : decode cX6_init 158 = .ok (.return_, 1) := by decide +kernel
set_option maxHeartbeats 4000000 in
set_option maxRecDepth 100000 in
theorem c_X4_init (l : Launch) (G : va_G) (cy : Nat → ClassId) (sz : Nat) (qt : Nat)   : MW l yX4_init cX4_init 1 none 1 8 120 G cy [(qt, .inr (3, [.int 0, .int 0, .int 0, .int 0, .int 0, .null, .null, .null, .null, .null, .null, .null, .null]))] sz [.ref qt] (Wv G (fun u => ∃ (qtw : Nat) (qtn : Nat) (qtg : Nat) (qta : Nat) (qtr : Nat) (qtm : Nat) (qtt : Nat) (qts : Nat), u = [(qt, .inr (3, [.int 0, .int 0, .int 0, .int 0, .int 1, .ref qtw, .ref qtn, .ref qtg, .ref qta, .ref qtr, .ref qtm, .ref qtt, .ref qts])), (qtw, .inl (cy 0, 8, .inl (fun _ => 0))), (qtn, .inl (cy 0, 8, .inl (fun _ => 0))), (qtg, .inl (cy 0, 8, .inl (fun _ => 0))), (qta, .inl (cy 0, 8, .inl (fun _ => 0))), (qtr, .inl (cy 0, 8, .inl (fun _ => 0))), (qtm, .inl (cy 0, 8, .inl (fun _ => 0))), (qtt, .inl (cy 0, 8, .inl (fun _ => 0))), (qts, .inl (cy 0, 64, .inl (fun _ => 0)))])) := by
  refine enW RX4 (by decide) rfl (Nat.le_of_ble_eq_true rfl) (fun p e s m below meth c ls A hx hb hml hown hts hr hlocks hP hN hl hin hD hA hS => ?_)
  have hin : meth.name = _ := hin
  have hK := hN.1
  have hl : lv_has ls 1 [(0, .ref qt)] := hl
  refine lv_aload_n hx hb dX4_init_0 rfl (lv_at hl 0 rfl) ?_
  refine W.objInit hx hb hown (hts _ m_t28) (hts _ m_t21) (hts _ m_t22) rfl (by rw [hml]; exact hl.1) rfl dX4_init_1 (Nat.le_of_ble_eq_true rfl) (Nat.le_of_ble_eq_true rfl) ?_
  refine W.eq (g2 := F0 m 4 ls []) rfl ?_
  refine lv_aload_n hx hb dX4_init_4 rfl (lv_at hl 0 rfl) ?_
  refine lv_iconst (v := 1) hx hb dX4_init_5 (by decide) ?_
  refine va_put (D := G) (ci := 3) (v := .int 1) (ty := .int) (C := RX4) (T := TX4) (N := 13) hx hb hts iX_X4 tyX4 tyX4_ok nmX4 hown hK hP hD hS 0 rfl rfl 4 (by decide) (hts _ m_t46) (fun _ h9 => h9) rfl (by decide +kernel) rfl rfl (Nat.le_of_ble_eq_true rfl) dX4_init_6 (fun H locs hP hD hS => ?_)
  have hP : va_P G CL [(qt, .inr (3, [.int 0, .int 0, .int 0, .int 0, .int 1, .null, .null, .null, .null, .null, .null, .null, .null]))] H := hP
  have hD : va_D A [(qt, .inr (3, [.int 0, .int 0, .int 0, .int 0, .int 1, .null, .null, .null, .null, .null, .null, .null, .null]))] := hD
  refine lv_aload_n hx hb dX4_init_9 rfl (lv_at hl 0 rfl) ?_
  refine lv_bipush (v := 8) hx hb dX4_init_10 (by decide) ?_
  refine newI hx hb hts m_t92 hN hP hD hS hA 8 (by decide) (by decide) (Nat.le_of_ble_eq_true rfl) (Nat.le_of_ble_eq_true rfl) (Nat.le_of_ble_eq_true rfl) dX4_init_12 (fun q_1 H hP hD hS => ?_)
  have hP : va_P G CL [(qt, .inr (3, [.int 0, .int 0, .int 0, .int 0, .int 1, .null, .null, .null, .null, .null, .null, .null, .null])), (q_1, .inl (cy 0, 8, .inl (fun _ => 0)))] H := hP
  have hD : va_D A [(qt, .inr (3, [.int 0, .int 0, .int 0, .int 0, .int 1, .null, .null, .null, .null, .null, .null, .null, .null])), (q_1, .inl (cy 0, 8, .inl (fun _ => 0)))] := hD
  refine W.widen (k := 1) (n := 8) (Nat.le_of_ble_eq_true rfl) (Nat.le_of_ble_eq_true rfl) ?_
  refine va_putF (D := G) (ci := 3) (v := .ref q_1) (ty := (.array .int)) (C := RX4) (T := TX4) (N := 13) hx hb hts iX_X4 tyX4 tyX4_ok nmX4 hown hK hP hD hS 0 rfl rfl 5 (by decide) (hts _ m_t48) (fun _ h9 => h9) rfl hin rfl (by decide +kernel) rfl rfl (Nat.le_of_ble_eq_true rfl) dX4_init_14 (fun H locs hP hD hS => ?_)
  have hP : va_P G CL [(qt, .inr (3, [.int 0, .int 0, .int 0, .int 0, .int 1, .ref q_1, .null, .null, .null, .null, .null, .null, .null])), (q_1, .inl (cy 0, 8, .inl (fun _ => 0)))] H := hP
  have hD : va_D A [(qt, .inr (3, [.int 0, .int 0, .int 0, .int 0, .int 1, .ref q_1, .null, .null, .null, .null, .null, .null, .null])), (q_1, .inl (cy 0, 8, .inl (fun _ => 0)))] := hD
  refine lv_aload_n hx hb dX4_init_17 rfl (lv_at hl 0 rfl) ?_
  refine lv_bipush (v := 8) hx hb dX4_init_18 (by decide) ?_
  refine newI hx hb hts m_t92 hN hP hD hS hA 8 (by decide) (by decide) (Nat.le_of_ble_eq_true rfl) (Nat.le_of_ble_eq_true rfl) (Nat.le_of_ble_eq_true rfl) dX4_init_20 (fun q_2 H hP hD hS => ?_)
  have hP : va_P G CL [(qt, .inr (3, [.int 0, .int 0, .int 0, .int 0, .int 1, .ref q_1, .null, .null, .null, .null, .null, .null, .null])), (q_1, .inl (cy 0, 8, .inl (fun _ => 0))), (q_2, .inl (cy 0, 8, .inl (fun _ => 0)))] H := hP
  have hD : va_D A [(qt, .inr (3, [.int 0, .int 0, .int 0, .int 0, .int 1, .ref q_1, .null, .null, .null, .null, .null, .null, .null])), (q_1, .inl (cy 0, 8, .inl (fun _ => 0))), (q_2, .inl (cy 0, 8, .inl (fun _ => 0)))] := hD
  refine W.widen (k := 2) (n := 16) (Nat.le_of_ble_eq_true rfl) (Nat.le_of_ble_eq_true rfl) ?_
  refine va_putF (D := G) (ci := 3) (v := .ref q_2) (ty := (.array .int)) (C := RX4) (T := TX4) (N := 13) hx hb hts iX_X4 tyX4 tyX4_ok nmX4 hown hK hP hD hS 0 rfl rfl 6 (by decide) (hts _ m_t50) (fun _ h9 => h9) rfl hin rfl (by decide +kernel) rfl rfl (Nat.le_of_ble_eq_true rfl) dX4_init_22 (fun H locs hP hD hS => ?_)
  have hP : va_P G CL [(qt, .inr (3, [.int 0, .int 0, .int 0, .int 0, .int 1, .ref q_1, .ref q_2, .null, .null, .null, .null, .null, .null])), (q_1, .inl (cy 0, 8, .inl (fun _ => 0))), (q_2, .inl (cy 0, 8, .inl (fun _ => 0)))] H := hP
  have hD : va_D A [(qt, .inr (3, [.int 0, .int 0, .int 0, .int 0, .int 1, .ref q_1, .ref q_2, .null, .null, .null, .null, .null, .null])), (q_1, .inl (cy 0, 8, .inl (fun _ => 0))), (q_2, .inl (cy 0, 8, .inl (fun _ => 0)))] := hD
  refine lv_aload_n hx hb dX4_init_25 rfl (lv_at hl 0 rfl) ?_
  refine lv_bipush (v := 8) hx hb dX4_init_26 (by decide) ?_
  refine newI hx hb hts m_t92 hN hP hD hS hA 8 (by decide) (by decide) (Nat.le_of_ble_eq_true rfl) (Nat.le_of_ble_eq_true rfl) (Nat.le_of_ble_eq_true rfl) dX4_init_28 (fun q_3 H hP hD hS => ?_)
  have hP : va_P G CL [(qt, .inr (3, [.int 0, .int 0, .int 0, .int 0, .int 1, .ref q_1, .ref q_2, .null, .null, .null, .null, .null, .null])), (q_1, .inl (cy 0, 8, .inl (fun _ => 0))), (q_2, .inl (cy 0, 8, .inl (fun _ => 0))), (q_3, .inl (cy 0, 8, .inl (fun _ => 0)))] H := hP
  have hD : va_D A [(qt, .inr (3, [.int 0, .int 0, .int 0, .int 0, .int 1, .ref q_1, .ref q_2, .null, .null, .null, .null, .null, .null])), (q_1, .inl (cy 0, 8, .inl (fun _ => 0))), (q_2, .inl (cy 0, 8, .inl (fun _ => 0))), (q_3, .inl (cy 0, 8, .inl (fun _ => 0)))] := hD
  refine W.widen (k := 3) (n := 24) (Nat.le_of_ble_eq_true rfl) (Nat.le_of_ble_eq_true rfl) ?_
  refine va_putF (D := G) (ci := 3) (v := .ref q_3) (ty := (.array .int)) (C := RX4) (T := TX4) (N := 13) hx hb hts iX_X4 tyX4 tyX4_ok nmX4 hown hK hP hD hS 0 rfl rfl 7 (by decide) (hts _ m_t53) (fun _ h9 => h9) rfl hin rfl (by decide +kernel) rfl rfl (Nat.le_of_ble_eq_true rfl) dX4_init_30 (fun H locs hP hD hS => ?_)
  have hP : va_P G CL [(qt, .inr (3, [.int 0, .int 0, .int 0, .int 0, .int 1, .ref q_1, .ref q_2, .ref q_3, .null, .null, .null, .null, .null])), (q_1, .inl (cy 0, 8, .inl (fun _ => 0))), (q_2, .inl (cy 0, 8, .inl (fun _ => 0))), (q_3, .inl (cy 0, 8, .inl (fun _ => 0)))] H := hP
  have hD : va_D A [(qt, .inr (3, [.int 0, .int 0, .int 0, .int 0, .int 1, .ref q_1, .ref q_2, .ref q_3, .null, .null, .null, .null, .null])), (q_1, .inl (cy 0, 8, .inl (fun _ => 0))), (q_2, .inl (cy 0, 8, .inl (fun _ => 0))), (q_3, .inl (cy 0, 8, .inl (fun _ => 0)))] := hD
  refine lv_aload_n hx hb dX4_init_33 rfl (lv_at hl 0 rfl) ?_
  refine lv_bipush (v := 8) hx hb dX4_init_34 (by decide) ?_
  refine newI hx hb hts m_t92 hN hP hD hS hA 8 (by decide) (by decide) (Nat.le_of_ble_eq_true rfl) (Nat.le_of_ble_eq_true rfl) (Nat.le_of_ble_eq_true rfl) dX4_init_36 (fun q_4 H hP hD hS => ?_)
  have hP : va_P G CL [(qt, .inr (3, [.int 0, .int 0, .int 0, .int 0, .int 1, .ref q_1, .ref q_2, .ref q_3, .null, .null, .null, .null, .null])), (q_1, .inl (cy 0, 8, .inl (fun _ => 0))), (q_2, .inl (cy 0, 8, .inl (fun _ => 0))), (q_3, .inl (cy 0, 8, .inl (fun _ => 0))), (q_4, .inl (cy 0, 8, .inl (fun _ => 0)))] H := hP
  have hD : va_D A [(qt, .inr (3, [.int 0, .int 0, .int 0, .int 0, .int 1, .ref q_1, .ref q_2, .ref q_3, .null, .null, .null, .null, .null])), (q_1, .inl (cy 0, 8, .inl (fun _ => 0))), (q_2, .inl (cy 0, 8, .inl (fun _ => 0))), (q_3, .inl (cy 0, 8, .inl (fun _ => 0))), (q_4, .inl (cy 0, 8, .inl (fun _ => 0)))] := hD
  refine W.widen (k := 4) (n := 32) (Nat.le_of_ble_eq_true rfl) (Nat.le_of_ble_eq_true rfl) ?_
  refine va_putF (D := G) (ci := 3) (v := .ref q_4) (ty := (.array .int)) (C := RX4) (T := TX4) (N := 13) hx hb hts iX_X4 tyX4 tyX4_ok nmX4 hown hK hP hD hS 0 rfl rfl 8 (by decide) (hts _ m_t56) (fun _ h9 => h9) rfl hin rfl (by decide +kernel) rfl rfl (Nat.le_of_ble_eq_true rfl) dX4_init_38 (fun H locs hP hD hS => ?_)
  have hP : va_P G CL [(qt, .inr (3, [.int 0, .int 0, .int 0, .int 0, .int 1, .ref q_1, .ref q_2, .ref q_3, .ref q_4, .null, .null, .null, .null])), (q_1, .inl (cy 0, 8, .inl (fun _ => 0))), (q_2, .inl (cy 0, 8, .inl (fun _ => 0))), (q_3, .inl (cy 0, 8, .inl (fun _ => 0))), (q_4, .inl (cy 0, 8, .inl (fun _ => 0)))] H := hP
  have hD : va_D A [(qt, .inr (3, [.int 0, .int 0, .int 0, .int 0, .int 1, .ref q_1, .ref q_2, .ref q_3, .ref q_4, .null, .null, .null, .null])), (q_1, .inl (cy 0, 8, .inl (fun _ => 0))), (q_2, .inl (cy 0, 8, .inl (fun _ => 0))), (q_3, .inl (cy 0, 8, .inl (fun _ => 0))), (q_4, .inl (cy 0, 8, .inl (fun _ => 0)))] := hD
  refine lv_aload_n hx hb dX4_init_41 rfl (lv_at hl 0 rfl) ?_
  refine lv_bipush (v := 8) hx hb dX4_init_42 (by decide) ?_
  refine newI hx hb hts m_t92 hN hP hD hS hA 8 (by decide) (by decide) (Nat.le_of_ble_eq_true rfl) (Nat.le_of_ble_eq_true rfl) (Nat.le_of_ble_eq_true rfl) dX4_init_44 (fun q_5 H hP hD hS => ?_)
  have hP : va_P G CL [(qt, .inr (3, [.int 0, .int 0, .int 0, .int 0, .int 1, .ref q_1, .ref q_2, .ref q_3, .ref q_4, .null, .null, .null, .null])), (q_1, .inl (cy 0, 8, .inl (fun _ => 0))), (q_2, .inl (cy 0, 8, .inl (fun _ => 0))), (q_3, .inl (cy 0, 8, .inl (fun _ => 0))), (q_4, .inl (cy 0, 8, .inl (fun _ => 0))), (q_5, .inl (cy 0, 8, .inl (fun _ => 0)))] H := hP
  have hD : va_D A [(qt, .inr (3, [.int 0, .int 0, .int 0, .int 0, .int 1, .ref q_1, .ref q_2, .ref q_3, .ref q_4, .null, .null, .null, .null])), (q_1, .inl (cy 0, 8, .inl (fun _ => 0))), (q_2, .inl (cy 0, 8, .inl (fun _ => 0))), (q_3, .inl (cy 0, 8, .inl (fun _ => 0))), (q_4, .inl (cy 0, 8, .inl (fun _ => 0))), (q_5, .inl (cy 0, 8, .inl (fun _ => 0)))] := hD
  refine W.widen (k := 5) (n := 40) (Nat.le_of_ble_eq_true rfl) (Nat.le_of_ble_eq_true rfl) ?_
  refine va_putF (D := G) (ci := 3) (v := .ref q_5) (ty := (.array .int)) (C := RX4) (T := TX4) (N := 13) hx hb hts iX_X4 tyX4 tyX4_ok nmX4 hown hK hP hD hS 0 rfl rfl 9 (by decide) (hts _ m_t58) (fun _ h9 => h9) rfl hin rfl (by decide +kernel) rfl rfl (Nat.le_of_ble_eq_true rfl) dX4_init_46 (fun H locs hP hD hS => ?_)
  have hP : va_P G CL [(qt, .inr (3, [.int 0, .int 0, .int 0, .int 0, .int 1, .ref q_1, .ref q_2, .ref q_3, .ref q_4, .ref q_5, .null, .null, .null])), (q_1, .inl (cy 0, 8, .inl (fun _ => 0))), (q_2, .inl (cy 0, 8, .inl (fun _ => 0))), (q_3, .inl (cy 0, 8, .inl (fun _ => 0))), (q_4, .inl (cy 0, 8, .inl (fun _ => 0))), (q_5, .inl (cy 0, 8, .inl (fun _ => 0)))] H := hP
  have hD : va_D A [(qt, .inr (3, [.int 0, .int 0, .int 0, .int 0, .int 1, .ref q_1, .ref q_2, .ref q_3, .ref q_4, .ref q_5, .null, .null, .null])), (q_1, .inl (cy 0, 8, .inl (fun _ => 0))), (q_2, .inl (cy 0, 8, .inl (fun _ => 0))), (q_3, .inl (cy 0, 8, .inl (fun _ => 0))), (q_4, .inl (cy 0, 8, .inl (fun _ => 0))), (q_5, .inl (cy 0, 8, .inl (fun _ => 0)))] := hD
  refine lv_aload_n hx hb dX4_init_49 rfl (lv_at hl 0 rfl) ?_
  refine lv_bipush (v := 8) hx hb dX4_init_50 (by decide) ?_
  refine newI hx hb hts m_t92 hN hP hD hS hA 8 (by decide) (by decide) (Nat.le_of_ble_eq_true rfl) (Nat.le_of_ble_eq_true rfl) (Nat.le_of_ble_eq_true rfl) dX4_init_52 (fun q_6 H hP hD hS => ?_)
  have hP : va_P G CL [(qt, .inr (3, [.int 0, .int 0, .int 0, .int 0, .int 1, .ref q_1, .ref q_2, .ref q_3, .ref q_4, .ref q_5, .null, .null, .null])), (q_1, .inl (cy 0, 8, .inl (fun _ => 0))), (q_2, .inl (cy 0, 8, .inl (fun _ => 0))), (q_3, .inl (cy 0, 8, .inl (fun _ => 0))), (q_4, .inl (cy 0, 8, .inl (fun _ => 0))), (q_5, .inl (cy 0, 8, .inl (fun _ => 0))), (q_6, .inl (cy 0, 8, .inl (fun _ => 0)))] H := hP
  have hD : va_D A [(qt, .inr (3, [.int 0, .int 0, .int 0, .int 0, .int 1, .ref q_1, .ref q_2, .ref q_3, .ref q_4, .ref q_5, .null, .null, .null])), (q_1, .inl (cy 0, 8, .inl (fun _ => 0))), (q_2, .inl (cy 0, 8, .inl (fun _ => 0))), (q_3, .inl (cy 0, 8, .inl (fun _ => 0))), (q_4, .inl (cy 0, 8, .inl (fun _ => 0))), (q_5, .inl (cy 0, 8, .inl (fun _ => 0))), (q_6, .inl (cy 0, 8, .inl (fun _ => 0)))] := hD
  refine W.widen (k := 6) (n := 48) (Nat.le_of_ble_eq_true rfl) (Nat.le_of_ble_eq_true rfl) ?_
  refine va_putF (D := G) (ci := 3) (v := .ref q_6) (ty := (.array .int)) (C := RX4) (T := TX4) (N := 13) hx hb hts iX_X4 tyX4 tyX4_ok nmX4 hown hK hP hD hS 0 rfl rfl 10 (by decide) (hts _ m_t60) (fun _ h9 => h9) rfl hin rfl (by decide +kernel) rfl rfl (Nat.le_of_ble_eq_true rfl) dX4_init_54 (fun H locs hP hD hS => ?_)
  have hP : va_P G CL [(qt, .inr (3, [.int 0, .int 0, .int 0, .int 0, .int 1, .ref q_1, .ref q_2, .ref q_3, .ref q_4, .ref q_5, .ref q_6, .null, .null])), (q_1, .inl (cy 0, 8, .inl (fun _ => 0))), (q_2, .inl (cy 0, 8, .inl (fun _ => 0))), (q_3, .inl (cy 0, 8, .inl (fun _ => 0))), (q_4, .inl (cy 0, 8, .inl (fun _ => 0))), (q_5, .inl (cy 0, 8, .inl (fun _ => 0))), (q_6, .inl (cy 0, 8, .inl (fun _ => 0)))] H := hP
  have hD : va_D A [(qt, .inr (3, [.int 0, .int 0, .int 0, .int 0, .int 1, .ref q_1, .ref q_2, .ref q_3, .ref q_4, .ref q_5, .ref q_6, .null, .null])), (q_1, .inl (cy 0, 8, .inl (fun _ => 0))), (q_2, .inl (cy 0, 8, .inl (fun _ => 0))), (q_3, .inl (cy 0, 8, .inl (fun _ => 0))), (q_4, .inl (cy 0, 8, .inl (fun _ => 0))), (q_5, .inl (cy 0, 8, .inl (fun _ => 0))), (q_6, .inl (cy 0, 8, .inl (fun _ => 0)))] := hD
  refine lv_aload_n hx hb dX4_init_57 rfl (lv_at hl 0 rfl) ?_
  refine lv_bipush (v := 8) hx hb dX4_init_58 (by decide) ?_
  refine newI hx hb hts m_t92 hN hP hD hS hA 8 (by decide) (by decide) (Nat.le_of_ble_eq_true rfl) (Nat.le_of_ble_eq_true rfl) (Nat.le_of_ble_eq_true rfl) dX4_init_60 (fun q_7 H hP hD hS => ?_)
  have hP : va_P G CL [(qt, .inr (3, [.int 0, .int 0, .int 0, .int 0, .int 1, .ref q_1, .ref q_2, .ref q_3, .ref q_4, .ref q_5, .ref q_6, .null, .null])), (q_1, .inl (cy 0, 8, .inl (fun _ => 0))), (q_2, .inl (cy 0, 8, .inl (fun _ => 0))), (q_3, .inl (cy 0, 8, .inl (fun _ => 0))), (q_4, .inl (cy 0, 8, .inl (fun _ => 0))), (q_5, .inl (cy 0, 8, .inl (fun _ => 0))), (q_6, .inl (cy 0, 8, .inl (fun _ => 0))), (q_7, .inl (cy 0, 8, .inl (fun _ => 0)))] H := hP
  have hD : va_D A [(qt, .inr (3, [.int 0, .int 0, .int 0, .int 0, .int 1, .ref q_1, .ref q_2, .ref q_3, .ref q_4, .ref q_5, .ref q_6, .null, .null])), (q_1, .inl (cy 0, 8, .inl (fun _ => 0))), (q_2, .inl (cy 0, 8, .inl (fun _ => 0))), (q_3, .inl (cy 0, 8, .inl (fun _ => 0))), (q_4, .inl (cy 0, 8, .inl (fun _ => 0))), (q_5, .inl (cy 0, 8, .inl (fun _ => 0))), (q_6, .inl (cy 0, 8, .inl (fun _ => 0))), (q_7, .inl (cy 0, 8, .inl (fun _ => 0)))] := hD
  refine W.widen (k := 7) (n := 56) (Nat.le_of_ble_eq_true rfl) (Nat.le_of_ble_eq_true rfl) ?_
  refine va_putF (D := G) (ci := 3) (v := .ref q_7) (ty := (.array .int)) (C := RX4) (T := TX4) (N := 13) hx hb hts iX_X4 tyX4 tyX4_ok nmX4 hown hK hP hD hS 0 rfl rfl 11 (by decide) (hts _ m_t62) (fun _ h9 => h9) rfl hin rfl (by decide +kernel) rfl rfl (Nat.le_of_ble_eq_true rfl) dX4_init_62 (fun H locs hP hD hS => ?_)
  have hP : va_P G CL [(qt, .inr (3, [.int 0, .int 0, .int 0, .int 0, .int 1, .ref q_1, .ref q_2, .ref q_3, .ref q_4, .ref q_5, .ref q_6, .ref q_7, .null])), (q_1, .inl (cy 0, 8, .inl (fun _ => 0))), (q_2, .inl (cy 0, 8, .inl (fun _ => 0))), (q_3, .inl (cy 0, 8, .inl (fun _ => 0))), (q_4, .inl (cy 0, 8, .inl (fun _ => 0))), (q_5, .inl (cy 0, 8, .inl (fun _ => 0))), (q_6, .inl (cy 0, 8, .inl (fun _ => 0))), (q_7, .inl (cy 0, 8, .inl (fun _ => 0)))] H := hP
  have hD : va_D A [(qt, .inr (3, [.int 0, .int 0, .int 0, .int 0, .int 1, .ref q_1, .ref q_2, .ref q_3, .ref q_4, .ref q_5, .ref q_6, .ref q_7, .null])), (q_1, .inl (cy 0, 8, .inl (fun _ => 0))), (q_2, .inl (cy 0, 8, .inl (fun _ => 0))), (q_3, .inl (cy 0, 8, .inl (fun _ => 0))), (q_4, .inl (cy 0, 8, .inl (fun _ => 0))), (q_5, .inl (cy 0, 8, .inl (fun _ => 0))), (q_6, .inl (cy 0, 8, .inl (fun _ => 0))), (q_7, .inl (cy 0, 8, .inl (fun _ => 0)))] := hD
  refine lv_aload_n hx hb dX4_init_65 rfl (lv_at hl 0 rfl) ?_
  refine lv_bipush (v := 64) hx hb dX4_init_66 (by decide) ?_
  refine newI hx hb hts m_t92 hN hP hD hS hA 64 (by decide) (by decide) (Nat.le_of_ble_eq_true rfl) (Nat.le_of_ble_eq_true rfl) (Nat.le_of_ble_eq_true rfl) dX4_init_68 (fun q_8 H hP hD hS => ?_)
  have hP : va_P G CL [(qt, .inr (3, [.int 0, .int 0, .int 0, .int 0, .int 1, .ref q_1, .ref q_2, .ref q_3, .ref q_4, .ref q_5, .ref q_6, .ref q_7, .null])), (q_1, .inl (cy 0, 8, .inl (fun _ => 0))), (q_2, .inl (cy 0, 8, .inl (fun _ => 0))), (q_3, .inl (cy 0, 8, .inl (fun _ => 0))), (q_4, .inl (cy 0, 8, .inl (fun _ => 0))), (q_5, .inl (cy 0, 8, .inl (fun _ => 0))), (q_6, .inl (cy 0, 8, .inl (fun _ => 0))), (q_7, .inl (cy 0, 8, .inl (fun _ => 0))), (q_8, .inl (cy 0, 64, .inl (fun _ => 0)))] H := hP
  have hD : va_D A [(qt, .inr (3, [.int 0, .int 0, .int 0, .int 0, .int 1, .ref q_1, .ref q_2, .ref q_3, .ref q_4, .ref q_5, .ref q_6, .ref q_7, .null])), (q_1, .inl (cy 0, 8, .inl (fun _ => 0))), (q_2, .inl (cy 0, 8, .inl (fun _ => 0))), (q_3, .inl (cy 0, 8, .inl (fun _ => 0))), (q_4, .inl (cy 0, 8, .inl (fun _ => 0))), (q_5, .inl (cy 0, 8, .inl (fun _ => 0))), (q_6, .inl (cy 0, 8, .inl (fun _ => 0))), (q_7, .inl (cy 0, 8, .inl (fun _ => 0))), (q_8, .inl (cy 0, 64, .inl (fun _ => 0)))] := hD
  refine W.widen (k := 8) (n := 120) (Nat.le_of_ble_eq_true rfl) (Nat.le_of_ble_eq_true rfl) ?_
  refine va_putF (D := G) (ci := 3) (v := .ref q_8) (ty := (.array .int)) (C := RX4) (T := TX4) (N := 13) hx hb hts iX_X4 tyX4 tyX4_ok nmX4 hown hK hP hD hS 0 rfl rfl 12 (by decide) (hts _ m_t64) (fun _ h9 => h9) rfl hin rfl (by decide +kernel) rfl rfl (Nat.le_of_ble_eq_true rfl) dX4_init_70 (fun H locs hP hD hS => ?_)
  have hP : va_P G CL [(qt, .inr (3, [.int 0, .int 0, .int 0, .int 0, .int 1, .ref q_1, .ref q_2, .ref q_3, .ref q_4, .ref q_5, .ref q_6, .ref q_7, .ref q_8])), (q_1, .inl (cy 0, 8, .inl (fun _ => 0))), (q_2, .inl (cy 0, 8, .inl (fun _ => 0))), (q_3, .inl (cy 0, 8, .inl (fun _ => 0))), (q_4, .inl (cy 0, 8, .inl (fun _ => 0))), (q_5, .inl (cy 0, 8, .inl (fun _ => 0))), (q_6, .inl (cy 0, 8, .inl (fun _ => 0))), (q_7, .inl (cy 0, 8, .inl (fun _ => 0))), (q_8, .inl (cy 0, 64, .inl (fun _ => 0)))] H := hP
  have hD : va_D A [(qt, .inr (3, [.int 0, .int 0, .int 0, .int 0, .int 1, .ref q_1, .ref q_2, .ref q_3, .ref q_4, .ref q_5, .ref q_6, .ref q_7, .ref q_8])), (q_1, .inl (cy 0, 8, .inl (fun _ => 0))), (q_2, .inl (cy 0, 8, .inl (fun _ => 0))), (q_3, .inl (cy 0, 8, .inl (fun _ => 0))), (q_4, .inl (cy 0, 8, .inl (fun _ => 0))), (q_5, .inl (cy 0, 8, .inl (fun _ => 0))), (q_6, .inl (cy 0, 8, .inl (fun _ => 0))), (q_7, .inl (cy 0, 8, .inl (fun _ => 0))), (q_8, .inl (cy 0, 64, .inl (fun _ => 0)))] := hD
  exact endV (u := [(qt, .inr (3, [.int 0, .int 0, .int 0, .int 0, .int 1, .ref q_1, .ref q_2, .ref q_3, .ref q_4, .ref q_5, .ref q_6, .ref q_7, .ref q_8])), (q_1, .inl (cy 0, 8, .inl (fun _ => 0))), (q_2, .inl (cy 0, 8, .inl (fun _ => 0))), (q_3, .inl (cy 0, 8, .inl (fun _ => 0))), (q_4, .inl (cy 0, 8, .inl (fun _ => 0))), (q_5, .inl (cy 0, 8, .inl (fun _ => 0))), (q_6, .inl (cy 0, 8, .inl (fun _ => 0))), (q_7, .inl (cy 0, 8, .inl (fun _ => 0))), (q_8, .inl (cy 0, 64, .inl (fun _ => 0)))]) hx hb hr hlocks (hP.sub [0, 1, 2, 3, 4, 5, 6, 7, 8] rfl) (hD.sub [0, 1, 2, 3, 4, 5, 6, 7, 8] (by decide) rfl) hS ⟨q_1, q_2, q_3, q_4, q_5, q_6, q_7, q_8, rfl⟩ dX4_init_73
set_option maxHeartbeats 4000000 in
set_option maxRecDepth 100000 in
theorem c_X0_init (l : Launch) (G : va_G) (cy : Nat → ClassId) (sz : Nat) (qp : Nat)   : MW l yX0_init cX0_init 1 none 2 18 266 G cy [(qp, .inr (0, [.null, .null, .int 0, .int 0]))] sz [.ref qp] (Wv G (fun u => u = [])) := by
  refine enW RX0 (by decide) rfl (Nat.le_of_ble_eq_true rfl) (fun p e s m below meth c ls A hx hb hml hown hts hr hlocks hP hN hl hin hD hA hS => ?_)
  have hin : meth.name = _ := hin
  have hK := hN.1
  have hl : lv_has ls 1 [(0, .ref qp)] := hl
  refine lv_aload_n hx hb dX0_init_0 rfl (lv_at hl 0 rfl) ?_
  refine W.objInit hx hb hown (hts _ m_t98) (hts _ m_t21) (hts _ m_t22) rfl (by rw [hml]; exact hl.1) rfl dX0_init_1 (Nat.le_of_ble_eq_true rfl) (Nat.le_of_ble_eq_true rfl) ?_
  refine W.eq (g2 := F0 m 4 ls []) rfl ?_
  refine lv_aload_n hx hb dX0_init_4 rfl (lv_at hl 0 rfl) ?_
  refine va_new (ci := 3) (fs := [.int 0, .int 0, .int 0, .int 0, .int 0, .null, .null, .null, .null, .null, .null, .null, .null]) (C := RX4) (T := TX4) (N := 13) hx hb hts iX_X4 tyX4 tyX4_ok hown (hts _ m_t99) (hts _ m_t24) (hts _ m_t2) hK hP hD hS hA rfl df_X4 (Nat.le_of_ble_eq_true rfl) (Nat.le_of_ble_eq_true rfl) dX0_init_5 (fun q_1 H hP hD hS => ?_)
  have hP : va_P G CL [(qp, .inr (0, [.null, .null, .int 0, .int 0])), (q_1, .inr (3, [.int 0, .int 0, .int 0, .int 0, .int 0, .null, .null, .null, .null, .null, .null, .null, .null]))] H := hP
  have hD : va_D A [(qp, .inr (0, [.null, .null, .int 0, .int 0])), (q_1, .inr (3, [.int 0, .int 0, .int 0, .int 0, .int 0, .null, .null, .null, .null, .null, .null, .null, .null]))] := hD
  refine W.widen (k := 1) (n := 13) (Nat.le_of_ble_eq_true rfl) (Nat.le_of_ble_eq_true rfl) ?_
  refine lv_dup hx hb dX0_init_8 rfl ?_
  refine kWv (wr := [(qp, .inr (0, [.null, .null, .int 0, .int 0]))]) (rIN (As := []) (rest := [.ref q_1, .ref qp]) (b := q_1) ⟨hx, hb, hml, hown, hts⟩ hN (c_X4_init l G cy (H).size q_1) L_X0_11 (preWS hN hP hD [1] rfl (by decide)) rfl ⟨Nat.le_of_ble_eq_true rfl, Nat.le_of_ble_eq_true rfl⟩ hl.1 (Nat.le_of_ble_eq_true rfl) dX0_init_9 ⟨Nat.le_of_ble_eq_true rfl, Nat.le_of_ble_eq_true rfl⟩) hP hD hS hA [1] [0] rfl rfl (by decide) (by decide) (fun u_4 H locs h_3 hP hD hS => ?_)
  obtain ⟨qtw_5, qtn_6, qtg_7, qta_8, qtr_9, qtm_10, qtt_11, qts_12, rfl⟩ := h_3
  have hP : va_P G CL [(qp, .inr (0, [.null, .null, .int 0, .int 0])), (q_1, .inr (3, [.int 0, .int 0, .int 0, .int 0, .int 1, .ref qtw_5, .ref qtn_6, .ref qtg_7, .ref qta_8, .ref qtr_9, .ref qtm_10, .ref qtt_11, .ref qts_12])), (qtw_5, .inl (cy 0, 8, .inl (fun _ => 0))), (qtn_6, .inl (cy 0, 8, .inl (fun _ => 0))), (qtg_7, .inl (cy 0, 8, .inl (fun _ => 0))), (qta_8, .inl (cy 0, 8, .inl (fun _ => 0))), (qtr_9, .inl (cy 0, 8, .inl (fun _ => 0))), (qtm_10, .inl (cy 0, 8, .inl (fun _ => 0))), (qtt_11, .inl (cy 0, 8, .inl (fun _ => 0))), (qts_12, .inl (cy 0, 64, .inl (fun _ => 0)))] H := hP
  have hD : va_D A [(qp, .inr (0, [.null, .null, .int 0, .int 0])), (q_1, .inr (3, [.int 0, .int 0, .int 0, .int 0, .int 1, .ref qtw_5, .ref qtn_6, .ref qtg_7, .ref qta_8, .ref qtr_9, .ref qtm_10, .ref qtt_11, .ref qts_12])), (qtw_5, .inl (cy 0, 8, .inl (fun _ => 0))), (qtn_6, .inl (cy 0, 8, .inl (fun _ => 0))), (qtg_7, .inl (cy 0, 8, .inl (fun _ => 0))), (qta_8, .inl (cy 0, 8, .inl (fun _ => 0))), (qtr_9, .inl (cy 0, 8, .inl (fun _ => 0))), (qtm_10, .inl (cy 0, 8, .inl (fun _ => 0))), (qtt_11, .inl (cy 0, 8, .inl (fun _ => 0))), (qts_12, .inl (cy 0, 64, .inl (fun _ => 0)))] := hD
  refine W.widen (k := 9) (n := 133) (Nat.le_of_ble_eq_true rfl) (Nat.le_of_ble_eq_true rfl) ?_
  refine va_putF (D := G) (ci := 0) (v := .ref q_1) (ty := (.object "EachBookOnce$Town")) (C := RX0) (T := TX0) (N := 4) hx hb hts iX_X0 tyX0 tyX0_ok nmX0 hown hK hP hD hS 0 rfl rfl 0 (by decide) (hts _ m_t101) (fun _ h9 => h9) rfl hin rfl (by decide +kernel) rfl rfl (Nat.le_of_ble_eq_true rfl) dX0_init_12 (fun H locs hP hD hS => ?_)
  have hP : va_P G CL [(qp, .inr (0, [.ref q_1, .null, .int 0, .int 0])), (q_1, .inr (3, [.int 0, .int 0, .int 0, .int 0, .int 1, .ref qtw_5, .ref qtn_6, .ref qtg_7, .ref qta_8, .ref qtr_9, .ref qtm_10, .ref qtt_11, .ref qts_12])), (qtw_5, .inl (cy 0, 8, .inl (fun _ => 0))), (qtn_6, .inl (cy 0, 8, .inl (fun _ => 0))), (qtg_7, .inl (cy 0, 8, .inl (fun _ => 0))), (qta_8, .inl (cy 0, 8, .inl (fun _ => 0))), (qtr_9, .inl (cy 0, 8, .inl (fun _ => 0))), (qtm_10, .inl (cy 0, 8, .inl (fun _ => 0))), (qtt_11, .inl (cy 0, 8, .inl (fun _ => 0))), (qts_12, .inl (cy 0, 64, .inl (fun _ => 0)))] H := hP
  have hD : va_D A [(qp, .inr (0, [.ref q_1, .null, .int 0, .int 0])), (q_1, .inr (3, [.int 0, .int 0, .int 0, .int 0, .int 1, .ref qtw_5, .ref qtn_6, .ref qtg_7, .ref qta_8, .ref qtr_9, .ref qtm_10, .ref qtt_11, .ref qts_12])), (qtw_5, .inl (cy 0, 8, .inl (fun _ => 0))), (qtn_6, .inl (cy 0, 8, .inl (fun _ => 0))), (qtg_7, .inl (cy 0, 8, .inl (fun _ => 0))), (qta_8, .inl (cy 0, 8, .inl (fun _ => 0))), (qtr_9, .inl (cy 0, 8, .inl (fun _ => 0))), (qtm_10, .inl (cy 0, 8, .inl (fun _ => 0))), (qtt_11, .inl (cy 0, 8, .inl (fun _ => 0))), (qts_12, .inl (cy 0, 64, .inl (fun _ => 0)))] := hD
  refine lv_aload_n hx hb dX0_init_15 rfl (lv_at hl 0 rfl) ?_
  refine va_new (ci := 3) (fs := [.int 0, .int 0, .int 0, .int 0, .int 0, .null, .null, .null, .null, .null, .null, .null, .null]) (C := RX4) (T := TX4) (N := 13) hx hb hts iX_X4 tyX4 tyX4_ok hown (hts _ m_t99) (hts _ m_t24) (hts _ m_t2) hK hP hD hS hA rfl df_X4 (Nat.le_of_ble_eq_true rfl) (Nat.le_of_ble_eq_true rfl) dX0_init_16 (fun q_13 H hP hD hS => ?_)
  have hP : va_P G CL [(qp, .inr (0, [.ref q_1, .null, .int 0, .int 0])), (q_1, .inr (3, [.int 0, .int 0, .int 0, .int 0, .int 1, .ref qtw_5, .ref qtn_6, .ref qtg_7, .ref qta_8, .ref qtr_9, .ref qtm_10, .ref qtt_11, .ref qts_12])), (qtw_5, .inl (cy 0, 8, .inl (fun _ => 0))), (qtn_6, .inl (cy 0, 8, .inl (fun _ => 0))), (qtg_7, .inl (cy 0, 8, .inl (fun _ => 0))), (qta_8, .inl (cy 0, 8, .inl (fun _ => 0))), (qtr_9, .inl (cy 0, 8, .inl (fun _ => 0))), (qtm_10, .inl (cy 0, 8, .inl (fun _ => 0))), (qtt_11, .inl (cy 0, 8, .inl (fun _ => 0))), (qts_12, .inl (cy 0, 64, .inl (fun _ => 0))), (q_13, .inr (3, [.int 0, .int 0, .int 0, .int 0, .int 0, .null, .null, .null, .null, .null, .null, .null, .null]))] H := hP
  have hD : va_D A [(qp, .inr (0, [.ref q_1, .null, .int 0, .int 0])), (q_1, .inr (3, [.int 0, .int 0, .int 0, .int 0, .int 1, .ref qtw_5, .ref qtn_6, .ref qtg_7, .ref qta_8, .ref qtr_9, .ref qtm_10, .ref qtt_11, .ref qts_12])), (qtw_5, .inl (cy 0, 8, .inl (fun _ => 0))), (qtn_6, .inl (cy 0, 8, .inl (fun _ => 0))), (qtg_7, .inl (cy 0, 8, .inl (fun _ => 0))), (qta_8, .inl (cy 0, 8, .inl (fun _ => 0))), (qtr_9, .inl (cy 0, 8, .inl (fun _ => 0))), (qtm_10, .inl (cy 0, 8, .inl (fun _ => 0))), (qtt_11, .inl (cy 0, 8, .inl (fun _ => 0))), (qts_12, .inl (cy 0, 64, .inl (fun _ => 0))), (q_13, .inr (3, [.int 0, .int 0, .int 0, .int 0, .int 0, .null, .null, .null, .null, .null, .null, .null, .null]))] := hD
  refine W.widen (k := 10) (n := 146) (Nat.le_of_ble_eq_true rfl) (Nat.le_of_ble_eq_true rfl) ?_
  refine lv_dup hx hb dX0_init_19 rfl ?_
  refine kWv (wr := [(qp, .inr (0, [.ref q_1, .null, .int 0, .int 0])), (q_1, .inr (3, [.int 0, .int 0, .int 0, .int 0, .int 1, .ref qtw_5, .ref qtn_6, .ref qtg_7, .ref qta_8, .ref qtr_9, .ref qtm_10, .ref qtt_11, .ref qts_12])), (qtw_5, .inl (cy 0, 8, .inl (fun _ => 0))), (qtn_6, .inl (cy 0, 8, .inl (fun _ => 0))), (qtg_7, .inl (cy 0, 8, .inl (fun _ => 0))), (qta_8, .inl (cy 0, 8, .inl (fun _ => 0))), (qtr_9, .inl (cy 0, 8, .inl (fun _ => 0))), (qtm_10, .inl (cy 0, 8, .inl (fun _ => 0))), (qtt_11, .inl (cy 0, 8, .inl (fun _ => 0))), (qts_12, .inl (cy 0, 64, .inl (fun _ => 0)))]) (rIN (As := []) (rest := [.ref q_13, .ref qp]) (b := q_13) ⟨hx, hb, hml, hown, hts⟩ hN (c_X4_init l G cy (H).size q_13) L_X0_11 (preWS hN hP hD [10] rfl (by decide)) rfl ⟨Nat.le_of_ble_eq_true rfl, Nat.le_of_ble_eq_true rfl⟩ hl.1 (Nat.le_of_ble_eq_true rfl) dX0_init_20 ⟨Nat.le_of_ble_eq_true rfl, Nat.le_of_ble_eq_true rfl⟩) hP hD hS hA [10] [0, 1, 2, 3, 4, 5, 6, 7, 8, 9] rfl rfl (by decide) (by decide) (fun u_16 H locs h_15 hP hD hS => ?_)
  obtain ⟨qtw_17, qtn_18, qtg_19, qta_20, qtr_21, qtm_22, qtt_23, qts_24, rfl⟩ := h_15
  have hP : va_P G CL [(qp, .inr (0, [.ref q_1, .null, .int 0, .int 0])), (q_1, .inr (3, [.int 0, .int 0, .int 0, .int 0, .int 1, .ref qtw_5, .ref qtn_6, .ref qtg_7, .ref qta_8, .ref qtr_9, .ref qtm_10, .ref qtt_11, .ref qts_12])), (qtw_5, .inl (cy 0, 8, .inl (fun _ => 0))), (qtn_6, .inl (cy 0, 8, .inl (fun _ => 0))), (qtg_7, .inl (cy 0, 8, .inl (fun _ => 0))), (qta_8, .inl (cy 0, 8, .inl (fun _ => 0))), (qtr_9, .inl (cy 0, 8, .inl (fun _ => 0))), (qtm_10, .inl (cy 0, 8, .inl (fun _ => 0))), (qtt_11, .inl (cy 0, 8, .inl (fun _ => 0))), (qts_12, .inl (cy 0, 64, .inl (fun _ => 0))), (q_13, .inr (3, [.int 0, .int 0, .int 0, .int 0, .int 1, .ref qtw_17, .ref qtn_18, .ref qtg_19, .ref qta_20, .ref qtr_21, .ref qtm_22, .ref qtt_23, .ref qts_24])), (qtw_17, .inl (cy 0, 8, .inl (fun _ => 0))), (qtn_18, .inl (cy 0, 8, .inl (fun _ => 0))), (qtg_19, .inl (cy 0, 8, .inl (fun _ => 0))), (qta_20, .inl (cy 0, 8, .inl (fun _ => 0))), (qtr_21, .inl (cy 0, 8, .inl (fun _ => 0))), (qtm_22, .inl (cy 0, 8, .inl (fun _ => 0))), (qtt_23, .inl (cy 0, 8, .inl (fun _ => 0))), (qts_24, .inl (cy 0, 64, .inl (fun _ => 0)))] H := hP
  have hD : va_D A [(qp, .inr (0, [.ref q_1, .null, .int 0, .int 0])), (q_1, .inr (3, [.int 0, .int 0, .int 0, .int 0, .int 1, .ref qtw_5, .ref qtn_6, .ref qtg_7, .ref qta_8, .ref qtr_9, .ref qtm_10, .ref qtt_11, .ref qts_12])), (qtw_5, .inl (cy 0, 8, .inl (fun _ => 0))), (qtn_6, .inl (cy 0, 8, .inl (fun _ => 0))), (qtg_7, .inl (cy 0, 8, .inl (fun _ => 0))), (qta_8, .inl (cy 0, 8, .inl (fun _ => 0))), (qtr_9, .inl (cy 0, 8, .inl (fun _ => 0))), (qtm_10, .inl (cy 0, 8, .inl (fun _ => 0))), (qtt_11, .inl (cy 0, 8, .inl (fun _ => 0))), (qts_12, .inl (cy 0, 64, .inl (fun _ => 0))), (q_13, .inr (3, [.int 0, .int 0, .int 0, .int 0, .int 1, .ref qtw_17, .ref qtn_18, .ref qtg_19, .ref qta_20, .ref qtr_21, .ref qtm_22, .ref qtt_23, .ref qts_24])), (qtw_17, .inl (cy 0, 8, .inl (fun _ => 0))), (qtn_18, .inl (cy 0, 8, .inl (fun _ => 0))), (qtg_19, .inl (cy 0, 8, .inl (fun _ => 0))), (qta_20, .inl (cy 0, 8, .inl (fun _ => 0))), (qtr_21, .inl (cy 0, 8, .inl (fun _ => 0))), (qtm_22, .inl (cy 0, 8, .inl (fun _ => 0))), (qtt_23, .inl (cy 0, 8, .inl (fun _ => 0))), (qts_24, .inl (cy 0, 64, .inl (fun _ => 0)))] := hD
  refine W.widen (k := 18) (n := 266) (Nat.le_of_ble_eq_true rfl) (Nat.le_of_ble_eq_true rfl) ?_
  refine va_putF (D := G) (ci := 0) (v := .ref q_13) (ty := (.object "EachBookOnce$Town")) (C := RX0) (T := TX0) (N := 4) hx hb hts iX_X0 tyX0 tyX0_ok nmX0 hown hK hP hD hS 0 rfl rfl 1 (by decide) (hts _ m_t103) (fun _ h9 => h9) rfl hin rfl (by decide +kernel) rfl rfl (Nat.le_of_ble_eq_true rfl) dX0_init_23 (fun H locs hP hD hS => ?_)
  have hP : va_P G CL [(qp, .inr (0, [.ref q_1, .ref q_13, .int 0, .int 0])), (q_1, .inr (3, [.int 0, .int 0, .int 0, .int 0, .int 1, .ref qtw_5, .ref qtn_6, .ref qtg_7, .ref qta_8, .ref qtr_9, .ref qtm_10, .ref qtt_11, .ref qts_12])), (qtw_5, .inl (cy 0, 8, .inl (fun _ => 0))), (qtn_6, .inl (cy 0, 8, .inl (fun _ => 0))), (qtg_7, .inl (cy 0, 8, .inl (fun _ => 0))), (qta_8, .inl (cy 0, 8, .inl (fun _ => 0))), (qtr_9, .inl (cy 0, 8, .inl (fun _ => 0))), (qtm_10, .inl (cy 0, 8, .inl (fun _ => 0))), (qtt_11, .inl (cy 0, 8, .inl (fun _ => 0))), (qts_12, .inl (cy 0, 64, .inl (fun _ => 0))), (q_13, .inr (3, [.int 0, .int 0, .int 0, .int 0, .int 1, .ref qtw_17, .ref qtn_18, .ref qtg_19, .ref qta_20, .ref qtr_21, .ref qtm_22, .ref qtt_23, .ref qts_24])), (qtw_17, .inl (cy 0, 8, .inl (fun _ => 0))), (qtn_18, .inl (cy 0, 8, .inl (fun _ => 0))), (qtg_19, .inl (cy 0, 8, .inl (fun _ => 0))), (qta_20, .inl (cy 0, 8, .inl (fun _ => 0))), (qtr_21, .inl (cy 0, 8, .inl (fun _ => 0))), (qtm_22, .inl (cy 0, 8, .inl (fun _ => 0))), (qtt_23, .inl (cy 0, 8, .inl (fun _ => 0))), (qts_24, .inl (cy 0, 64, .inl (fun _ => 0)))] H := hP
  have hD : va_D A [(qp, .inr (0, [.ref q_1, .ref q_13, .int 0, .int 0])), (q_1, .inr (3, [.int 0, .int 0, .int 0, .int 0, .int 1, .ref qtw_5, .ref qtn_6, .ref qtg_7, .ref qta_8, .ref qtr_9, .ref qtm_10, .ref qtt_11, .ref qts_12])), (qtw_5, .inl (cy 0, 8, .inl (fun _ => 0))), (qtn_6, .inl (cy 0, 8, .inl (fun _ => 0))), (qtg_7, .inl (cy 0, 8, .inl (fun _ => 0))), (qta_8, .inl (cy 0, 8, .inl (fun _ => 0))), (qtr_9, .inl (cy 0, 8, .inl (fun _ => 0))), (qtm_10, .inl (cy 0, 8, .inl (fun _ => 0))), (qtt_11, .inl (cy 0, 8, .inl (fun _ => 0))), (qts_12, .inl (cy 0, 64, .inl (fun _ => 0))), (q_13, .inr (3, [.int 0, .int 0, .int 0, .int 0, .int 1, .ref qtw_17, .ref qtn_18, .ref qtg_19, .ref qta_20, .ref qtr_21, .ref qtm_22, .ref qtt_23, .ref qts_24])), (qtw_17, .inl (cy 0, 8, .inl (fun _ => 0))), (qtn_18, .inl (cy 0, 8, .inl (fun _ => 0))), (qtg_19, .inl (cy 0, 8, .inl (fun _ => 0))), (qta_20, .inl (cy 0, 8, .inl (fun _ => 0))), (qtr_21, .inl (cy 0, 8, .inl (fun _ => 0))), (qtm_22, .inl (cy 0, 8, .inl (fun _ => 0))), (qtt_23, .inl (cy 0, 8, .inl (fun _ => 0))), (qts_24, .inl (cy 0, 64, .inl (fun _ => 0)))] := hD
  exact endV (u := []) hx hb hr hlocks va_P0 va_D0 hS rfl dX0_init_26
set_option maxHeartbeats 4000000 in
set_option maxRecDepth 100000 in
theorem c_X2_init (l : Launch) (G : va_G) (cy : Nat → ClassId) (sz : Nat) (qs : Nat)   : MW l yX2_init cX2_init 2 none 1 4 344 G cy [(qs, .inr (1, [.null, .null, .null, .null]))] sz [.ref qs] (Wv G (fun u => ∃ (qsh : Nat) (qss : Nat) (qsa : Nat) (qse : Nat) (fH : Nat → Int32), u = [(qs, .inr (1, [.ref qsh, .ref qss, .ref qsa, .ref qse])), (qsh, .inl (cy 0, 8, .inl fH)), (qss, .inl (cy 0, 8, .inl (fun _ => 0))), (qsa, .inl (cy 0, 8, .inl (fun _ => 0))), (qse, .inl (cy 1, 320, .inr (.inl (fun _ => 0))))] ∧ (∀ i, i < 8 → fH i = -1))) := by
  refine enW RX2 (by decide) rfl (Nat.le_of_ble_eq_true rfl) (fun p e s m below meth c ls A hx hb hml hown hts hr hlocks hP hN hl hin hD hA hS => ?_)
  have hin : meth.name = _ := hin
  have hK := hN.1
  have hl : lv_has ls 2 [(0, .ref qs)] := hl
  refine lv_aload_n hx hb dX2_init_0 rfl (lv_at hl 0 rfl) ?_
  refine W.objInit hx hb hown (hts _ m_t122) (hts _ m_t21) (hts _ m_t22) rfl (by rw [hml]; exact hl.1) rfl dX2_init_1 (Nat.le_of_ble_eq_true rfl) (Nat.le_of_ble_eq_true rfl) ?_
  refine W.eq (g2 := F0 m 4 ls []) rfl ?_
  refine lv_aload_n hx hb dX2_init_4 rfl (lv_at hl 0 rfl) ?_
  refine lv_bipush (v := 8) hx hb dX2_init_5 (by decide) ?_
  refine newI hx hb hts m_t92 hN hP hD hS hA 8 (by decide) (by decide) (Nat.le_of_ble_eq_true rfl) (Nat.le_of_ble_eq_true rfl) (Nat.le_of_ble_eq_true rfl) dX2_init_7 (fun q_1 H hP hD hS => ?_)
  have hP : va_P G CL [(qs, .inr (1, [.null, .null, .null, .null])), (q_1, .inl (cy 0, 8, .inl (fun _ => 0)))] H := hP
  have hD : va_D A [(qs, .inr (1, [.null, .null, .null, .null])), (q_1, .inl (cy 0, 8, .inl (fun _ => 0)))] := hD
  refine W.widen (k := 1) (n := 8) (Nat.le_of_ble_eq_true rfl) (Nat.le_of_ble_eq_true rfl) ?_
  refine va_putF (D := G) (ci := 1) (v := .ref q_1) (ty := (.array .int)) (C := RX2) (T := TX2) (N := 4) hx hb hts iX_X2 tyX2 tyX2_ok nmX2 hown hK hP hD hS 0 rfl rfl 0 (by decide) (hts _ m_t123) (fun _ h9 => h9) rfl hin rfl (by decide +kernel) rfl rfl (Nat.le_of_ble_eq_true rfl) dX2_init_9 (fun H locs hP hD hS => ?_)
  have hP : va_P G CL [(qs, .inr (1, [.ref q_1, .null, .null, .null])), (q_1, .inl (cy 0, 8, .inl (fun _ => 0)))] H := hP
  have hD : va_D A [(qs, .inr (1, [.ref q_1, .null, .null, .null])), (q_1, .inl (cy 0, 8, .inl (fun _ => 0)))] := hD
  refine lv_aload_n hx hb dX2_init_12 rfl (lv_at hl 0 rfl) ?_
  refine lv_bipush (v := 8) hx hb dX2_init_13 (by decide) ?_
  refine newI hx hb hts m_t92 hN hP hD hS hA 8 (by decide) (by decide) (Nat.le_of_ble_eq_true rfl) (Nat.le_of_ble_eq_true rfl) (Nat.le_of_ble_eq_true rfl) dX2_init_15 (fun q_2 H hP hD hS => ?_)
  have hP : va_P G CL [(qs, .inr (1, [.ref q_1, .null, .null, .null])), (q_1, .inl (cy 0, 8, .inl (fun _ => 0))), (q_2, .inl (cy 0, 8, .inl (fun _ => 0)))] H := hP
  have hD : va_D A [(qs, .inr (1, [.ref q_1, .null, .null, .null])), (q_1, .inl (cy 0, 8, .inl (fun _ => 0))), (q_2, .inl (cy 0, 8, .inl (fun _ => 0)))] := hD
  refine W.widen (k := 2) (n := 16) (Nat.le_of_ble_eq_true rfl) (Nat.le_of_ble_eq_true rfl) ?_
  refine va_putF (D := G) (ci := 1) (v := .ref q_2) (ty := (.array .int)) (C := RX2) (T := TX2) (N := 4) hx hb hts iX_X2 tyX2 tyX2_ok nmX2 hown hK hP hD hS 0 rfl rfl 1 (by decide) (hts _ m_t125) (fun _ h9 => h9) rfl hin rfl (by decide +kernel) rfl rfl (Nat.le_of_ble_eq_true rfl) dX2_init_17 (fun H locs hP hD hS => ?_)
  have hP : va_P G CL [(qs, .inr (1, [.ref q_1, .ref q_2, .null, .null])), (q_1, .inl (cy 0, 8, .inl (fun _ => 0))), (q_2, .inl (cy 0, 8, .inl (fun _ => 0)))] H := hP
  have hD : va_D A [(qs, .inr (1, [.ref q_1, .ref q_2, .null, .null])), (q_1, .inl (cy 0, 8, .inl (fun _ => 0))), (q_2, .inl (cy 0, 8, .inl (fun _ => 0)))] := hD
  refine lv_aload_n hx hb dX2_init_20 rfl (lv_at hl 0 rfl) ?_
  refine lv_bipush (v := 8) hx hb dX2_init_21 (by decide) ?_
  refine newI hx hb hts m_t92 hN hP hD hS hA 8 (by decide) (by decide) (Nat.le_of_ble_eq_true rfl) (Nat.le_of_ble_eq_true rfl) (Nat.le_of_ble_eq_true rfl) dX2_init_23 (fun q_3 H hP hD hS => ?_)
  have hP : va_P G CL [(qs, .inr (1, [.ref q_1, .ref q_2, .null, .null])), (q_1, .inl (cy 0, 8, .inl (fun _ => 0))), (q_2, .inl (cy 0, 8, .inl (fun _ => 0))), (q_3, .inl (cy 0, 8, .inl (fun _ => 0)))] H := hP
  have hD : va_D A [(qs, .inr (1, [.ref q_1, .ref q_2, .null, .null])), (q_1, .inl (cy 0, 8, .inl (fun _ => 0))), (q_2, .inl (cy 0, 8, .inl (fun _ => 0))), (q_3, .inl (cy 0, 8, .inl (fun _ => 0)))] := hD
  refine W.widen (k := 3) (n := 24) (Nat.le_of_ble_eq_true rfl) (Nat.le_of_ble_eq_true rfl) ?_
  refine va_putF (D := G) (ci := 1) (v := .ref q_3) (ty := (.array .int)) (C := RX2) (T := TX2) (N := 4) hx hb hts iX_X2 tyX2 tyX2_ok nmX2 hown hK hP hD hS 0 rfl rfl 2 (by decide) (hts _ m_t127) (fun _ h9 => h9) rfl hin rfl (by decide +kernel) rfl rfl (Nat.le_of_ble_eq_true rfl) dX2_init_25 (fun H locs hP hD hS => ?_)
  have hP : va_P G CL [(qs, .inr (1, [.ref q_1, .ref q_2, .ref q_3, .null])), (q_1, .inl (cy 0, 8, .inl (fun _ => 0))), (q_2, .inl (cy 0, 8, .inl (fun _ => 0))), (q_3, .inl (cy 0, 8, .inl (fun _ => 0)))] H := hP
  have hD : va_D A [(qs, .inr (1, [.ref q_1, .ref q_2, .ref q_3, .null])), (q_1, .inl (cy 0, 8, .inl (fun _ => 0))), (q_2, .inl (cy 0, 8, .inl (fun _ => 0))), (q_3, .inl (cy 0, 8, .inl (fun _ => 0)))] := hD
  refine lv_aload_n hx hb dX2_init_28 rfl (lv_at hl 0 rfl) ?_
  refine lv_sipush (v := 320) hx hb dX2_init_29 (by decide) ?_
  refine newJ hx hb hts m_t139 hN hP hD hS hA 320 (by decide) (by decide) (Nat.le_of_ble_eq_true rfl) (Nat.le_of_ble_eq_true rfl) (Nat.le_of_ble_eq_true rfl) dX2_init_32 (fun q_4 H hP hD hS => ?_)
  have hP : va_P G CL [(qs, .inr (1, [.ref q_1, .ref q_2, .ref q_3, .null])), (q_1, .inl (cy 0, 8, .inl (fun _ => 0))), (q_2, .inl (cy 0, 8, .inl (fun _ => 0))), (q_3, .inl (cy 0, 8, .inl (fun _ => 0))), (q_4, .inl (cy 1, 320, .inr (.inl (fun _ => 0))))] H := hP
  have hD : va_D A [(qs, .inr (1, [.ref q_1, .ref q_2, .ref q_3, .null])), (q_1, .inl (cy 0, 8, .inl (fun _ => 0))), (q_2, .inl (cy 0, 8, .inl (fun _ => 0))), (q_3, .inl (cy 0, 8, .inl (fun _ => 0))), (q_4, .inl (cy 1, 320, .inr (.inl (fun _ => 0))))] := hD
  refine W.widen (k := 4) (n := 344) (Nat.le_of_ble_eq_true rfl) (Nat.le_of_ble_eq_true rfl) ?_
  refine va_putF (D := G) (ci := 1) (v := .ref q_4) (ty := (.array .long)) (C := RX2) (T := TX2) (N := 4) hx hb hts iX_X2 tyX2 tyX2_ok nmX2 hown hK hP hD hS 0 rfl rfl 3 (by decide) (hts _ m_t129) (fun _ h9 => h9) rfl hin rfl (by decide +kernel) rfl rfl (Nat.le_of_ble_eq_true rfl) dX2_init_34 (fun H locs hP hD hS => ?_)
  have hP : va_P G CL [(qs, .inr (1, [.ref q_1, .ref q_2, .ref q_3, .ref q_4])), (q_1, .inl (cy 0, 8, .inl (fun _ => 0))), (q_2, .inl (cy 0, 8, .inl (fun _ => 0))), (q_3, .inl (cy 0, 8, .inl (fun _ => 0))), (q_4, .inl (cy 1, 320, .inr (.inl (fun _ => 0))))] H := hP
  have hD : va_D A [(qs, .inr (1, [.ref q_1, .ref q_2, .ref q_3, .ref q_4])), (q_1, .inl (cy 0, 8, .inl (fun _ => 0))), (q_2, .inl (cy 0, 8, .inl (fun _ => 0))), (q_3, .inl (cy 0, 8, .inl (fun _ => 0))), (q_4, .inl (cy 1, 320, .inr (.inl (fun _ => 0))))] := hD
  refine lv_iconst (v := 0) hx hb dX2_init_37 (by decide) ?_
  refine lv_istore_n (lv' := [(1, .int 0), (0, .ref qs)]) hx hb dX2_init_38 rfl hl (by decide) rfl (fun ls hl => ?_)
  refine lv_iload_n hx hb dX2_init_39 rfl (lv_at hl 0 rfl) ?_
  refine lv_bipush (v := 8) hx hb dX2_init_40 (by decide) ?_
  refine lv_icmp_ge (tgt := 58) hx hb dX2_init_42 (by decide) (fun h9 => absurd h9 (by decide)) (fun _ => ?_)
  refine lv_aload_n hx hb dX2_init_45 rfl (lv_at hl 1 rfl) ?_
  refine va_get (D := G) (ci := 1) (v := .ref q_1) (C := RX2) (T := TX2) (N := 4) hx hb hts iX_X2 hown hK hP 0 rfl rfl 0 (by decide) (hts _ m_t123) (fun _ h9 => h9) rfl dX2_init_46 ?_
  refine lv_iload_n hx hb dX2_init_49 rfl (lv_at hl 0 rfl) ?_
  refine lv_iconst (v := (-1)) hx hb dX2_init_50 (by decide) ?_
  refine va_iast hx hb hK hP hD hS 1 0 rfl rfl (in_c rfl) dX2_init_51 (fun H locs hP hD hS => ?_)
  have hP : va_P G CL [(qs, .inr (1, [.ref q_1, .ref q_2, .ref q_3, .ref q_4])), (q_1, .inl (cy 0, 8, .inl (upd (fun _ => 0) 0 (-1)))), (q_2, .inl (cy 0, 8, .inl (fun _ => 0))), (q_3, .inl (cy 0, 8, .inl (fun _ => 0))), (q_4, .inl (cy 1, 320, .inr (.inl (fun _ => 0))))] H := hP
  have hD : va_D A [(qs, .inr (1, [.ref q_1, .ref q_2, .ref q_3, .ref q_4])), (q_1, .inl (cy 0, 8, .inl (upd (fun _ => 0) 0 (-1)))), (q_2, .inl (cy 0, 8, .inl (fun _ => 0))), (q_3, .inl (cy 0, 8, .inl (fun _ => 0))), (q_4, .inl (cy 1, 320, .inr (.inl (fun _ => 0))))] := hD
  refine lv_iinc (v := 1) (lv' := [(1, .int 1), (0, .ref qs)]) hx hb dX2_init_52 hl (k := 0) rfl (by decide) (by decide) rfl (fun ls hl => ?_)
  refine lv_goto (tgt := 39) hx hb dX2_init_55 (by decide) ?_
  refine lv_iload_n hx hb dX2_init_39 rfl (lv_at hl 0 rfl) ?_
  refine lv_bipush (v := 8) hx hb dX2_init_40 (by decide) ?_
  refine lv_icmp_ge (tgt := 58) hx hb dX2_init_42 (by decide) (fun h9 => absurd h9 (by decide)) (fun _ => ?_)
  refine lv_aload_n hx hb dX2_init_45 rfl (lv_at hl 1 rfl) ?_
  refine va_get (D := G) (ci := 1) (v := .ref q_1) (C := RX2) (T := TX2) (N := 4) hx hb hts iX_X2 hown hK hP 0 rfl rfl 0 (by decide) (hts _ m_t123) (fun _ h9 => h9) rfl dX2_init_46 ?_
  refine lv_iload_n hx hb dX2_init_49 rfl (lv_at hl 0 rfl) ?_
  refine lv_iconst (v := (-1)) hx hb dX2_init_50 (by decide) ?_
  refine va_iast hx hb hK hP hD hS 1 0 rfl rfl (in_c rfl) dX2_init_51 (fun H locs hP hD hS => ?_)
  have hP : va_P G CL [(qs, .inr (1, [.ref q_1, .ref q_2, .ref q_3, .ref q_4])), (q_1, .inl (cy 0, 8, .inl (upd (upd (fun _ => 0) 0 (-1)) 1 (-1)))), (q_2, .inl (cy 0, 8, .inl (fun _ => 0))), (q_3, .inl (cy 0, 8, .inl (fun _ => 0))), (q_4, .inl (cy 1, 320, .inr (.inl (fun _ => 0))))] H := hP
  have hD : va_D A [(qs, .inr (1, [.ref q_1, .ref q_2, .ref q_3, .ref q_4])), (q_1, .inl (cy 0, 8, .inl (upd (upd (fun _ => 0) 0 (-1)) 1 (-1)))), (q_2, .inl (cy 0, 8, .inl (fun _ => 0))), (q_3, .inl (cy 0, 8, .inl (fun _ => 0))), (q_4, .inl (cy 1, 320, .inr (.inl (fun _ => 0))))] := hD
  refine lv_iinc (v := 2) (lv' := [(1, .int 2), (0, .ref qs)]) hx hb dX2_init_52 hl (k := 0) rfl (by decide) (by decide) rfl (fun ls hl => ?_)
  refine lv_goto (tgt := 39) hx hb dX2_init_55 (by decide) ?_
  refine lv_iload_n hx hb dX2_init_39 rfl (lv_at hl 0 rfl) ?_
  refine lv_bipush (v := 8) hx hb dX2_init_40 (by decide) ?_
  refine lv_icmp_ge (tgt := 58) hx hb dX2_init_42 (by decide) (fun h9 => absurd h9 (by decide)) (fun _ => ?_)
  refine lv_aload_n hx hb dX2_init_45 rfl (lv_at hl 1 rfl) ?_
  refine va_get (D := G) (ci := 1) (v := .ref q_1) (C := RX2) (T := TX2) (N := 4) hx hb hts iX_X2 hown hK hP 0 rfl rfl 0 (by decide) (hts _ m_t123) (fun _ h9 => h9) rfl dX2_init_46 ?_
  refine lv_iload_n hx hb dX2_init_49 rfl (lv_at hl 0 rfl) ?_
  refine lv_iconst (v := (-1)) hx hb dX2_init_50 (by decide) ?_
  refine va_iast hx hb hK hP hD hS 1 0 rfl rfl (in_c rfl) dX2_init_51 (fun H locs hP hD hS => ?_)
  have hP : va_P G CL [(qs, .inr (1, [.ref q_1, .ref q_2, .ref q_3, .ref q_4])), (q_1, .inl (cy 0, 8, .inl (upd (upd (upd (fun _ => 0) 0 (-1)) 1 (-1)) 2 (-1)))), (q_2, .inl (cy 0, 8, .inl (fun _ => 0))), (q_3, .inl (cy 0, 8, .inl (fun _ => 0))), (q_4, .inl (cy 1, 320, .inr (.inl (fun _ => 0))))] H := hP
  have hD : va_D A [(qs, .inr (1, [.ref q_1, .ref q_2, .ref q_3, .ref q_4])), (q_1, .inl (cy 0, 8, .inl (upd (upd (upd (fun _ => 0) 0 (-1)) 1 (-1)) 2 (-1)))), (q_2, .inl (cy 0, 8, .inl (fun _ => 0))), (q_3, .inl (cy 0, 8, .inl (fun _ => 0))), (q_4, .inl (cy 1, 320, .inr (.inl (fun _ => 0))))] := hD
  refine lv_iinc (v := 3) (lv' := [(1, .int 3), (0, .ref qs)]) hx hb dX2_init_52 hl (k := 0) rfl (by decide) (by decide) rfl (fun ls hl => ?_)
  refine lv_goto (tgt := 39) hx hb dX2_init_55 (by decide) ?_
  refine lv_iload_n hx hb dX2_init_39 rfl (lv_at hl 0 rfl) ?_
  refine lv_bipush (v := 8) hx hb dX2_init_40 (by decide) ?_
  refine lv_icmp_ge (tgt := 58) hx hb dX2_init_42 (by decide) (fun h9 => absurd h9 (by decide)) (fun _ => ?_)
  refine lv_aload_n hx hb dX2_init_45 rfl (lv_at hl 1 rfl) ?_
  refine va_get (D := G) (ci := 1) (v := .ref q_1) (C := RX2) (T := TX2) (N := 4) hx hb hts iX_X2 hown hK hP 0 rfl rfl 0 (by decide) (hts _ m_t123) (fun _ h9 => h9) rfl dX2_init_46 ?_
  refine lv_iload_n hx hb dX2_init_49 rfl (lv_at hl 0 rfl) ?_
  refine lv_iconst (v := (-1)) hx hb dX2_init_50 (by decide) ?_
  refine va_iast hx hb hK hP hD hS 1 0 rfl rfl (in_c rfl) dX2_init_51 (fun H locs hP hD hS => ?_)
  have hP : va_P G CL [(qs, .inr (1, [.ref q_1, .ref q_2, .ref q_3, .ref q_4])), (q_1, .inl (cy 0, 8, .inl (upd (upd (upd (upd (fun _ => 0) 0 (-1)) 1 (-1)) 2 (-1)) 3 (-1)))), (q_2, .inl (cy 0, 8, .inl (fun _ => 0))), (q_3, .inl (cy 0, 8, .inl (fun _ => 0))), (q_4, .inl (cy 1, 320, .inr (.inl (fun _ => 0))))] H := hP
  have hD : va_D A [(qs, .inr (1, [.ref q_1, .ref q_2, .ref q_3, .ref q_4])), (q_1, .inl (cy 0, 8, .inl (upd (upd (upd (upd (fun _ => 0) 0 (-1)) 1 (-1)) 2 (-1)) 3 (-1)))), (q_2, .inl (cy 0, 8, .inl (fun _ => 0))), (q_3, .inl (cy 0, 8, .inl (fun _ => 0))), (q_4, .inl (cy 1, 320, .inr (.inl (fun _ => 0))))] := hD
  refine lv_iinc (v := 4) (lv' := [(1, .int 4), (0, .ref qs)]) hx hb dX2_init_52 hl (k := 0) rfl (by decide) (by decide) rfl (fun ls hl => ?_)
  refine lv_goto (tgt := 39) hx hb dX2_init_55 (by decide) ?_
  refine lv_iload_n hx hb dX2_init_39 rfl (lv_at hl 0 rfl) ?_
  refine lv_bipush (v := 8) hx hb dX2_init_40 (by decide) ?_
  refine lv_icmp_ge (tgt := 58) hx hb dX2_init_42 (by decide) (fun h9 => absurd h9 (by decide)) (fun _ => ?_)
  refine lv_aload_n hx hb dX2_init_45 rfl (lv_at hl 1 rfl) ?_
  refine va_get (D := G) (ci := 1) (v := .ref q_1) (C := RX2) (T := TX2) (N := 4) hx hb hts iX_X2 hown hK hP 0 rfl rfl 0 (by decide) (hts _ m_t123) (fun _ h9 => h9) rfl dX2_init_46 ?_
  refine lv_iload_n hx hb dX2_init_49 rfl (lv_at hl 0 rfl) ?_
  refine lv_iconst (v := (-1)) hx hb dX2_init_50 (by decide) ?_
  refine va_iast hx hb hK hP hD hS 1 0 rfl rfl (in_c rfl) dX2_init_51 (fun H locs hP hD hS => ?_)
  have hP : va_P G CL [(qs, .inr (1, [.ref q_1, .ref q_2, .ref q_3, .ref q_4])), (q_1, .inl (cy 0, 8, .inl (upd (upd (upd (upd (upd (fun _ => 0) 0 (-1)) 1 (-1)) 2 (-1)) 3 (-1)) 4 (-1)))), (q_2, .inl (cy 0, 8, .inl (fun _ => 0))), (q_3, .inl (cy 0, 8, .inl (fun _ => 0))), (q_4, .inl (cy 1, 320, .inr (.inl (fun _ => 0))))] H := hP
  have hD : va_D A [(qs, .inr (1, [.ref q_1, .ref q_2, .ref q_3, .ref q_4])), (q_1, .inl (cy 0, 8, .inl (upd (upd (upd (upd (upd (fun _ => 0) 0 (-1)) 1 (-1)) 2 (-1)) 3 (-1)) 4 (-1)))), (q_2, .inl (cy 0, 8, .inl (fun _ => 0))), (q_3, .inl (cy 0, 8, .inl (fun _ => 0))), (q_4, .inl (cy 1, 320, .inr (.inl (fun _ => 0))))] := hD
  refine lv_iinc (v := 5) (lv' := [(1, .int 5), (0, .ref qs)]) hx hb dX2_init_52 hl (k := 0) rfl (by decide) (by decide) rfl (fun ls hl => ?_)
  refine lv_goto (tgt := 39) hx hb dX2_init_55 (by decide) ?_
  refine lv_iload_n hx hb dX2_init_39 rfl (lv_at hl 0 rfl) ?_
  refine lv_bipush (v := 8) hx hb dX2_init_40 (by decide) ?_
  refine lv_icmp_ge (tgt := 58) hx hb dX2_init_42 (by decide) (fun h9 => absurd h9 (by decide)) (fun _ => ?_)
  refine lv_aload_n hx hb dX2_init_45 rfl (lv_at hl 1 rfl) ?_
  refine va_get (D := G) (ci := 1) (v := .ref q_1) (C := RX2) (T := TX2) (N := 4) hx hb hts iX_X2 hown hK hP 0 rfl rfl 0 (by decide) (hts _ m_t123) (fun _ h9 => h9) rfl dX2_init_46 ?_
  refine lv_iload_n hx hb dX2_init_49 rfl (lv_at hl 0 rfl) ?_
  refine lv_iconst (v := (-1)) hx hb dX2_init_50 (by decide) ?_
  refine va_iast hx hb hK hP hD hS 1 0 rfl rfl (in_c rfl) dX2_init_51 (fun H locs hP hD hS => ?_)
  have hP : va_P G CL [(qs, .inr (1, [.ref q_1, .ref q_2, .ref q_3, .ref q_4])), (q_1, .inl (cy 0, 8, .inl (upd (upd (upd (upd (upd (upd (fun _ => 0) 0 (-1)) 1 (-1)) 2 (-1)) 3 (-1)) 4 (-1)) 5 (-1)))), (q_2, .inl (cy 0, 8, .inl (fun _ => 0))), (q_3, .inl (cy 0, 8, .inl (fun _ => 0))), (q_4, .inl (cy 1, 320, .inr (.inl (fun _ => 0))))] H := hP
  have hD : va_D A [(qs, .inr (1, [.ref q_1, .ref q_2, .ref q_3, .ref q_4])), (q_1, .inl (cy 0, 8, .inl (upd (upd (upd (upd (upd (upd (fun _ => 0) 0 (-1)) 1 (-1)) 2 (-1)) 3 (-1)) 4 (-1)) 5 (-1)))), (q_2, .inl (cy 0, 8, .inl (fun _ => 0))), (q_3, .inl (cy 0, 8, .inl (fun _ => 0))), (q_4, .inl (cy 1, 320, .inr (.inl (fun _ => 0))))] := hD
  refine lv_iinc (v := 6) (lv' := [(1, .int 6), (0, .ref qs)]) hx hb dX2_init_52 hl (k := 0) rfl (by decide) (by decide) rfl (fun ls hl => ?_)
  refine lv_goto (tgt := 39) hx hb dX2_init_55 (by decide) ?_
  refine lv_iload_n hx hb dX2_init_39 rfl (lv_at hl 0 rfl) ?_
  refine lv_bipush (v := 8) hx hb dX2_init_40 (by decide) ?_
  refine lv_icmp_ge (tgt := 58) hx hb dX2_init_42 (by decide) (fun h9 => absurd h9 (by decide)) (fun _ => ?_)
  refine lv_aload_n hx hb dX2_init_45 rfl (lv_at hl 1 rfl) ?_
  refine va_get (D := G) (ci := 1) (v := .ref q_1) (C := RX2) (T := TX2) (N := 4) hx hb hts iX_X2 hown hK hP 0 rfl rfl 0 (by decide) (hts _ m_t123) (fun _ h9 => h9) rfl dX2_init_46 ?_
  refine lv_iload_n hx hb dX2_init_49 rfl (lv_at hl 0 rfl) ?_
  refine lv_iconst (v := (-1)) hx hb dX2_init_50 (by decide) ?_
  refine va_iast hx hb hK hP hD hS 1 0 rfl rfl (in_c rfl) dX2_init_51 (fun H locs hP hD hS => ?_)
  have hP : va_P G CL [(qs, .inr (1, [.ref q_1, .ref q_2, .ref q_3, .ref q_4])), (q_1, .inl (cy 0, 8, .inl (upd (upd (upd (upd (upd (upd (upd (fun _ => 0) 0 (-1)) 1 (-1)) 2 (-1)) 3 (-1)) 4 (-1)) 5 (-1)) 6 (-1)))), (q_2, .inl (cy 0, 8, .inl (fun _ => 0))), (q_3, .inl (cy 0, 8, .inl (fun _ => 0))), (q_4, .inl (cy 1, 320, .inr (.inl (fun _ => 0))))] H := hP
  have hD : va_D A [(qs, .inr (1, [.ref q_1, .ref q_2, .ref q_3, .ref q_4])), (q_1, .inl (cy 0, 8, .inl (upd (upd (upd (upd (upd (upd (upd (fun _ => 0) 0 (-1)) 1 (-1)) 2 (-1)) 3 (-1)) 4 (-1)) 5 (-1)) 6 (-1)))), (q_2, .inl (cy 0, 8, .inl (fun _ => 0))), (q_3, .inl (cy 0, 8, .inl (fun _ => 0))), (q_4, .inl (cy 1, 320, .inr (.inl (fun _ => 0))))] := hD
  refine lv_iinc (v := 7) (lv' := [(1, .int 7), (0, .ref qs)]) hx hb dX2_init_52 hl (k := 0) rfl (by decide) (by decide) rfl (fun ls hl => ?_)
  refine lv_goto (tgt := 39) hx hb dX2_init_55 (by decide) ?_
  refine lv_iload_n hx hb dX2_init_39 rfl (lv_at hl 0 rfl) ?_
  refine lv_bipush (v := 8) hx hb dX2_init_40 (by decide) ?_
  refine lv_icmp_ge (tgt := 58) hx hb dX2_init_42 (by decide) (fun h9 => absurd h9 (by decide)) (fun _ => ?_)
  refine lv_aload_n hx hb dX2_init_45 rfl (lv_at hl 1 rfl) ?_
  refine va_get (D := G) (ci := 1) (v := .ref q_1) (C := RX2) (T := TX2) (N := 4) hx hb hts iX_X2 hown hK hP 0 rfl rfl 0 (by decide) (hts _ m_t123) (fun _ h9 => h9) rfl dX2_init_46 ?_
  refine lv_iload_n hx hb dX2_init_49 rfl (lv_at hl 0 rfl) ?_
  refine lv_iconst (v := (-1)) hx hb dX2_init_50 (by decide) ?_
  refine va_iast hx hb hK hP hD hS 1 0 rfl rfl (in_c rfl) dX2_init_51 (fun H locs hP hD hS => ?_)
  have hP : va_P G CL [(qs, .inr (1, [.ref q_1, .ref q_2, .ref q_3, .ref q_4])), (q_1, .inl (cy 0, 8, .inl (upd (upd (upd (upd (upd (upd (upd (upd (fun _ => 0) 0 (-1)) 1 (-1)) 2 (-1)) 3 (-1)) 4 (-1)) 5 (-1)) 6 (-1)) 7 (-1)))), (q_2, .inl (cy 0, 8, .inl (fun _ => 0))), (q_3, .inl (cy 0, 8, .inl (fun _ => 0))), (q_4, .inl (cy 1, 320, .inr (.inl (fun _ => 0))))] H := hP
  have hD : va_D A [(qs, .inr (1, [.ref q_1, .ref q_2, .ref q_3, .ref q_4])), (q_1, .inl (cy 0, 8, .inl (upd (upd (upd (upd (upd (upd (upd (upd (fun _ => 0) 0 (-1)) 1 (-1)) 2 (-1)) 3 (-1)) 4 (-1)) 5 (-1)) 6 (-1)) 7 (-1)))), (q_2, .inl (cy 0, 8, .inl (fun _ => 0))), (q_3, .inl (cy 0, 8, .inl (fun _ => 0))), (q_4, .inl (cy 1, 320, .inr (.inl (fun _ => 0))))] := hD
  refine lv_iinc (v := 8) (lv' := [(1, .int 8), (0, .ref qs)]) hx hb dX2_init_52 hl (k := 0) rfl (by decide) (by decide) rfl (fun ls hl => ?_)
  refine lv_goto (tgt := 39) hx hb dX2_init_55 (by decide) ?_
  refine lv_iload_n hx hb dX2_init_39 rfl (lv_at hl 0 rfl) ?_
  refine lv_bipush (v := 8) hx hb dX2_init_40 (by decide) ?_
  refine lv_icmp_ge (tgt := 58) hx hb dX2_init_42 (by decide) (fun _ => ?_) (fun h9 => absurd (by decide) h9)
  exact endV (u := [(qs, .inr (1, [.ref q_1, .ref q_2, .ref q_3, .ref q_4])), (q_1, .inl (cy 0, 8, .inl (upd (upd (upd (upd (upd (upd (upd (upd (fun _ => 0) 0 (-1)) 1 (-1)) 2 (-1)) 3 (-1)) 4 (-1)) 5 (-1)) 6 (-1)) 7 (-1)))), (q_2, .inl (cy 0, 8, .inl (fun _ => 0))), (q_3, .inl (cy 0, 8, .inl (fun _ => 0))), (q_4, .inl (cy 1, 320, .inr (.inl (fun _ => 0))))]) hx hb hr hlocks (hP.sub [0, 1, 2, 3, 4] rfl) (hD.sub [0, 1, 2, 3, 4] (by decide) rfl) hS ⟨q_1, q_2, q_3, q_4, upd (upd (upd (upd (upd (upd (upd (upd (fun _ => 0) 0 (-1)) 1 (-1)) 2 (-1)) 3 (-1)) 4 (-1)) 5 (-1)) 6 (-1)) 7 (-1), rfl, fun i hi => by match i, hi with | 0, _ => rfl | 1, _ => rfl | 2, _ => rfl | 3, _ => rfl | 4, _ => rfl | 5, _ => rfl | 6, _ => rfl | 7, _ => rfl | k + 8, h => exact absurd h (by omega)⟩ dX2_init_58
set_option maxHeartbeats 4000000 in
set_option maxRecDepth 100000 in
theorem c_X3_init (l : Launch) (G : va_G) (cy : Nat → ClassId) (sz : Nat) (qa : Nat)   : MW l yX3_init cX3_init 1 none 2 10 383 G cy [(qa, .inr (2, [.null, .int 0, .int 0, .int 0, .int 0, .int 0, .null]))] sz [.ref qa] (Wv G (fun u => ∃ (qab : Nat) (qd : Nat) (qdw : Nat) (qdn : Nat) (qdg : Nat) (qda : Nat) (qdr : Nat) (qdm : Nat) (qdt : Nat) (qds : Nat), u = [(qa, .inr (2, [.ref qab, .int 0, .int 0, .int 0, .int 0, .int 0, .ref qd])), (qab, .inl (cy 2, 250, .inl (fun _ => 0))), (qd, .inr (3, [.int 0, .int 0, .int 0, .int 0, .int 1, .ref qdw, .ref qdn, .ref qdg, .ref qda, .ref qdr, .ref qdm, .ref qdt, .ref qds])), (qdw, .inl (cy 0, 8, .inl (fun _ => 0))), (qdn, .inl (cy 0, 8, .inl (fun _ => 0))), (qdg, .inl (cy 0, 8, .inl (fun _ => 0))), (qda, .inl (cy 0, 8, .inl (fun _ => 0))), (qdr, .inl (cy 0, 8, .inl (fun _ => 0))), (qdm, .inl (cy 0, 8, .inl (fun _ => 0))), (qdt, .inl (cy 0, 8, .inl (fun _ => 0))), (qds, .inl (cy 0, 64, .inl (fun _ => 0)))])) := by
  refine enW RX3 (by decide) rfl (Nat.le_of_ble_eq_true rfl) (fun p e s m below meth c ls A hx hb hml hown hts hr hlocks hP hN hl hin hD hA hS => ?_)
  have hin : meth.name = _ := hin
  have hK := hN.1
  have hl : lv_has ls 1 [(0, .ref qa)] := hl
  refine lv_aload_n hx hb dX3_init_0 rfl (lv_at hl 0 rfl) ?_
  refine W.objInit hx hb hown (hts _ m_t145) (hts _ m_t21) (hts _ m_t22) rfl (by rw [hml]; exact hl.1) rfl dX3_init_1 (Nat.le_of_ble_eq_true rfl) (Nat.le_of_ble_eq_true rfl) ?_
  refine W.eq (g2 := F0 m 4 ls []) rfl ?_
  refine lv_aload_n hx hb dX3_init_4 rfl (lv_at hl 0 rfl) ?_
  refine lv_sipush (v := 250) hx hb dX3_init_5 (by decide) ?_
  refine newB hx hb hts m_t173 hN hP hD hS hA 250 (by decide) (by decide) (Nat.le_of_ble_eq_true rfl) (Nat.le_of_ble_eq_true rfl) (Nat.le_of_ble_eq_true rfl) dX3_init_8 (fun q_1 H hP hD hS => ?_)
  have hP : va_P G CL [(qa, .inr (2, [.null, .int 0, .int 0, .int 0, .int 0, .int 0, .null])), (q_1, .inl (cy 2, 250, .inl (fun _ => 0)))] H := hP
  have hD : va_D A [(qa, .inr (2, [.null, .int 0, .int 0, .int 0, .int 0, .int 0, .null])), (q_1, .inl (cy 2, 250, .inl (fun _ => 0)))] := hD
  refine W.widen (k := 1) (n := 250) (Nat.le_of_ble_eq_true rfl) (Nat.le_of_ble_eq_true rfl) ?_
  refine va_putF (D := G) (ci := 2) (v := .ref q_1) (ty := (.array .byte)) (C := RX3) (T := TX3) (N := 7) hx hb hts iX_X3 tyX3 tyX3_ok nmX3 hown hK hP hD hS 0 rfl rfl 0 (by decide) (hts _ m_t148) (fun _ h9 => h9) rfl hin rfl (by decide +kernel) rfl rfl (Nat.le_of_ble_eq_true rfl) dX3_init_10 (fun H locs hP hD hS => ?_)
  have hP : va_P G CL [(qa, .inr (2, [.ref q_1, .int 0, .int 0, .int 0, .int 0, .int 0, .null])), (q_1, .inl (cy 2, 250, .inl (fun _ => 0)))] H := hP
  have hD : va_D A [(qa, .inr (2, [.ref q_1, .int 0, .int 0, .int 0, .int 0, .int 0, .null])), (q_1, .inl (cy 2, 250, .inl (fun _ => 0)))] := hD
  refine lv_aload_n hx hb dX3_init_13 rfl (lv_at hl 0 rfl) ?_
  refine va_new (ci := 3) (fs := [.int 0, .int 0, .int 0, .int 0, .int 0, .null, .null, .null, .null, .null, .null, .null, .null]) (C := RX4) (T := TX4) (N := 13) hx hb hts iX_X4 tyX4 tyX4_ok hown (hts _ m_t146) (hts _ m_t24) (hts _ m_t2) hK hP hD hS hA rfl df_X4 (Nat.le_of_ble_eq_true rfl) (Nat.le_of_ble_eq_true rfl) dX3_init_14 (fun q_2 H hP hD hS => ?_)
  have hP : va_P G CL [(qa, .inr (2, [.ref q_1, .int 0, .int 0, .int 0, .int 0, .int 0, .null])), (q_1, .inl (cy 2, 250, .inl (fun _ => 0))), (q_2, .inr (3, [.int 0, .int 0, .int 0, .int 0, .int 0, .null, .null, .null, .null, .null, .null, .null, .null]))] H := hP
  have hD : va_D A [(qa, .inr (2, [.ref q_1, .int 0, .int 0, .int 0, .int 0, .int 0, .null])), (q_1, .inl (cy 2, 250, .inl (fun _ => 0))), (q_2, .inr (3, [.int 0, .int 0, .int 0, .int 0, .int 0, .null, .null, .null, .null, .null, .null, .null, .null]))] := hD
  refine W.widen (k := 2) (n := 263) (Nat.le_of_ble_eq_true rfl) (Nat.le_of_ble_eq_true rfl) ?_
  refine lv_dup hx hb dX3_init_17 rfl ?_
  refine kWv (wr := [(qa, .inr (2, [.ref q_1, .int 0, .int 0, .int 0, .int 0, .int 0, .null])), (q_1, .inl (cy 2, 250, .inl (fun _ => 0)))]) (rIN (As := []) (rest := [.ref q_2, .ref qa]) (b := q_2) ⟨hx, hb, hml, hown, hts⟩ hN (c_X4_init l G cy (H).size q_2) L_X3_17 (preWS hN hP hD [2] rfl (by decide)) rfl ⟨Nat.le_of_ble_eq_true rfl, Nat.le_of_ble_eq_true rfl⟩ hl.1 (Nat.le_of_ble_eq_true rfl) dX3_init_18 ⟨Nat.le_of_ble_eq_true rfl, Nat.le_of_ble_eq_true rfl⟩) hP hD hS hA [2] [0, 1] rfl rfl (by decide) (by decide) (fun u_5 H locs h_4 hP hD hS => ?_)
  obtain ⟨qtw_6, qtn_7, qtg_8, qta_9, qtr_10, qtm_11, qtt_12, qts_13, rfl⟩ := h_4
  have hP : va_P G CL [(qa, .inr (2, [.ref q_1, .int 0, .int 0, .int 0, .int 0, .int 0, .null])), (q_1, .inl (cy 2, 250, .inl (fun _ => 0))), (q_2, .inr (3, [.int 0, .int 0, .int 0, .int 0, .int 1, .ref qtw_6, .ref qtn_7, .ref qtg_8, .ref qta_9, .ref qtr_10, .ref qtm_11, .ref qtt_12, .ref qts_13])), (qtw_6, .inl (cy 0, 8, .inl (fun _ => 0))), (qtn_7, .inl (cy 0, 8, .inl (fun _ => 0))), (qtg_8, .inl (cy 0, 8, .inl (fun _ => 0))), (qta_9, .inl (cy 0, 8, .inl (fun _ => 0))), (qtr_10, .inl (cy 0, 8, .inl (fun _ => 0))), (qtm_11, .inl (cy 0, 8, .inl (fun _ => 0))), (qtt_12, .inl (cy 0, 8, .inl (fun _ => 0))), (qts_13, .inl (cy 0, 64, .inl (fun _ => 0)))] H := hP
  have hD : va_D A [(qa, .inr (2, [.ref q_1, .int 0, .int 0, .int 0, .int 0, .int 0, .null])), (q_1, .inl (cy 2, 250, .inl (fun _ => 0))), (q_2, .inr (3, [.int 0, .int 0, .int 0, .int 0, .int 1, .ref qtw_6, .ref qtn_7, .ref qtg_8, .ref qta_9, .ref qtr_10, .ref qtm_11, .ref qtt_12, .ref qts_13])), (qtw_6, .inl (cy 0, 8, .inl (fun _ => 0))), (qtn_7, .inl (cy 0, 8, .inl (fun _ => 0))), (qtg_8, .inl (cy 0, 8, .inl (fun _ => 0))), (qta_9, .inl (cy 0, 8, .inl (fun _ => 0))), (qtr_10, .inl (cy 0, 8, .inl (fun _ => 0))), (qtm_11, .inl (cy 0, 8, .inl (fun _ => 0))), (qtt_12, .inl (cy 0, 8, .inl (fun _ => 0))), (qts_13, .inl (cy 0, 64, .inl (fun _ => 0)))] := hD
  refine W.widen (k := 10) (n := 383) (Nat.le_of_ble_eq_true rfl) (Nat.le_of_ble_eq_true rfl) ?_
  refine va_putF (D := G) (ci := 2) (v := .ref q_2) (ty := (.object "EachBookOnce$Town")) (C := RX3) (T := TX3) (N := 7) hx hb hts iX_X3 tyX3 tyX3_ok nmX3 hown hK hP hD hS 0 rfl rfl 6 (by decide) (hts _ m_t156) (fun _ h9 => h9) rfl hin rfl (by decide +kernel) rfl rfl (Nat.le_of_ble_eq_true rfl) dX3_init_21 (fun H locs hP hD hS => ?_)
  have hP : va_P G CL [(qa, .inr (2, [.ref q_1, .int 0, .int 0, .int 0, .int 0, .int 0, .ref q_2])), (q_1, .inl (cy 2, 250, .inl (fun _ => 0))), (q_2, .inr (3, [.int 0, .int 0, .int 0, .int 0, .int 1, .ref qtw_6, .ref qtn_7, .ref qtg_8, .ref qta_9, .ref qtr_10, .ref qtm_11, .ref qtt_12, .ref qts_13])), (qtw_6, .inl (cy 0, 8, .inl (fun _ => 0))), (qtn_7, .inl (cy 0, 8, .inl (fun _ => 0))), (qtg_8, .inl (cy 0, 8, .inl (fun _ => 0))), (qta_9, .inl (cy 0, 8, .inl (fun _ => 0))), (qtr_10, .inl (cy 0, 8, .inl (fun _ => 0))), (qtm_11, .inl (cy 0, 8, .inl (fun _ => 0))), (qtt_12, .inl (cy 0, 8, .inl (fun _ => 0))), (qts_13, .inl (cy 0, 64, .inl (fun _ => 0)))] H := hP
  have hD : va_D A [(qa, .inr (2, [.ref q_1, .int 0, .int 0, .int 0, .int 0, .int 0, .ref q_2])), (q_1, .inl (cy 2, 250, .inl (fun _ => 0))), (q_2, .inr (3, [.int 0, .int 0, .int 0, .int 0, .int 1, .ref qtw_6, .ref qtn_7, .ref qtg_8, .ref qta_9, .ref qtr_10, .ref qtm_11, .ref qtt_12, .ref qts_13])), (qtw_6, .inl (cy 0, 8, .inl (fun _ => 0))), (qtn_7, .inl (cy 0, 8, .inl (fun _ => 0))), (qtg_8, .inl (cy 0, 8, .inl (fun _ => 0))), (qta_9, .inl (cy 0, 8, .inl (fun _ => 0))), (qtr_10, .inl (cy 0, 8, .inl (fun _ => 0))), (qtm_11, .inl (cy 0, 8, .inl (fun _ => 0))), (qtt_12, .inl (cy 0, 8, .inl (fun _ => 0))), (qts_13, .inl (cy 0, 64, .inl (fun _ => 0)))] := hD
  exact endV (u := [(qa, .inr (2, [.ref q_1, .int 0, .int 0, .int 0, .int 0, .int 0, .ref q_2])), (q_1, .inl (cy 2, 250, .inl (fun _ => 0))), (q_2, .inr (3, [.int 0, .int 0, .int 0, .int 0, .int 1, .ref qtw_6, .ref qtn_7, .ref qtg_8, .ref qta_9, .ref qtr_10, .ref qtm_11, .ref qtt_12, .ref qts_13])), (qtw_6, .inl (cy 0, 8, .inl (fun _ => 0))), (qtn_7, .inl (cy 0, 8, .inl (fun _ => 0))), (qtg_8, .inl (cy 0, 8, .inl (fun _ => 0))), (qta_9, .inl (cy 0, 8, .inl (fun _ => 0))), (qtr_10, .inl (cy 0, 8, .inl (fun _ => 0))), (qtm_11, .inl (cy 0, 8, .inl (fun _ => 0))), (qtt_12, .inl (cy 0, 8, .inl (fun _ => 0))), (qts_13, .inl (cy 0, 64, .inl (fun _ => 0)))]) hx hb hr hlocks (hP.sub [0, 1, 2, 3, 4, 5, 6, 7, 8, 9, 10] rfl) (hD.sub [0, 1, 2, 3, 4, 5, 6, 7, 8, 9, 10] (by decide) rfl) hS ⟨q_1, q_2, qtw_6, qtn_7, qtg_8, qta_9, qtr_10, qtm_11, qtt_12, qts_13, rfl⟩ dX3_init_24
set_option maxHeartbeats 4000000 in
set_option maxRecDepth 100000 in
theorem c_X5_init (l : Launch) (G : va_G) (cy : Nat → ClassId) (sz : Nat) (qx : Nat)   : MW l yX5_init cX5_init 1 none 3 54 1279 G cy [(qx, .inr (4, [.null, .null, .null, .null, .null, .null, .int 0, .int 0, .int 0]))] sz [.ref qx] (Wv G (fun u => ∃ (qt : Nat) (qk : Nat) (qp : Nat) (qs : Nat) (qa : Nat) (qr : Nat) (qtw : Nat) (qtn : Nat) (qtg : Nat) (qta : Nat) (qtr : Nat) (qtm : Nat) (qtt : Nat) (qts : Nat) (qkw : Nat) (qkn : Nat) (qkg : Nat) (qka : Nat) (qkr : Nat) (qkm : Nat) (qkt : Nat) (qks : Nat) (qsh : Nat) (qss : Nat) (qsa : Nat) (qse : Nat) (fH : Nat → Int32) (qab : Nat) (qd : Nat) (qdw : Nat) (qdn : Nat) (qdg : Nat) (qda : Nat) (qdr : Nat) (qdm : Nat) (qdt : Nat) (qds : Nat), u = [(qx, .inr (4, [.ref qt, .ref qk, .ref qp, .ref qs, .ref qa, .ref qr, .int 0, .int 0, .int 0])), (qr, .inl (cy 0, 5, .inl (fun _ => 0))), (qt, .inr (3, [.int 0, .int 0, .int 0, .int 0, .int 1, .ref qtw, .ref qtn, .ref qtg, .ref qta, .ref qtr, .ref qtm, .ref qtt, .ref qts])), (qtw, .inl (cy 0, 8, .inl (fun _ => 0))), (qtn, .inl (cy 0, 8, .inl (fun _ => 0))), (qtg, .inl (cy 0, 8, .inl (fun _ => 0))), (qta, .inl (cy 0, 8, .inl (fun _ => 0))), (qtr, .inl (cy 0, 8, .inl (fun _ => 0))), (qtm, .inl (cy 0, 8, .inl (fun _ => 0))), (qtt, .inl (cy 0, 8, .inl (fun _ => 0))), (qts, .inl (cy 0, 64, .inl (fun _ => 0))), (qk, .inr (3, [.int 0, .int 0, .int 0, .int 0, .int 1, .ref qkw, .ref qkn, .ref qkg, .ref qka, .ref qkr, .ref qkm, .ref qkt, .ref qks])), (qkw, .inl (cy 0, 8, .inl (fun _ => 0))), (qkn, .inl (cy 0, 8, .inl (fun _ => 0))), (qkg, .inl (cy 0, 8, .inl (fun _ => 0))), (qka, .inl (cy 0, 8, .inl (fun _ => 0))), (qkr, .inl (cy 0, 8, .inl (fun _ => 0))), (qkm, .inl (cy 0, 8, .inl (fun _ => 0))), (qkt, .inl (cy 0, 8, .inl (fun _ => 0))), (qks, .inl (cy 0, 64, .inl (fun _ => 0))), (qs, .inr (1, [.ref qsh, .ref qss, .ref qsa, .ref qse])), (qsh, .inl (cy 0, 8, .inl fH)), (qss, .inl (cy 0, 8, .inl (fun _ => 0))), (qsa, .inl (cy 0, 8, .inl (fun _ => 0))), (qse, .inl (cy 1, 320, .inr (.inl (fun _ => 0)))), (qa, .inr (2, [.ref qab, .int 0, .int 0, .int 0, .int 0, .int 0, .ref qd])), (qab, .inl (cy 2, 250, .inl (fun _ => 0))), (qd, .inr (3, [.int 0, .int 0, .int 0, .int 0, .int 1, .ref qdw, .ref qdn, .ref qdg, .ref qda, .ref qdr, .ref qdm, .ref qdt, .ref qds])), (qdw, .inl (cy 0, 8, .inl (fun _ => 0))), (qdn, .inl (cy 0, 8, .inl (fun _ => 0))), (qdg, .inl (cy 0, 8, .inl (fun _ => 0))), (qda, .inl (cy 0, 8, .inl (fun _ => 0))), (qdr, .inl (cy 0, 8, .inl (fun _ => 0))), (qdm, .inl (cy 0, 8, .inl (fun _ => 0))), (qdt, .inl (cy 0, 8, .inl (fun _ => 0))), (qds, .inl (cy 0, 64, .inl (fun _ => 0)))] ∧ (∀ i, i < 8 → fH i = -1))) := by
  refine enW RX5 (by decide) rfl (Nat.le_of_ble_eq_true rfl) (fun p e s m below meth c ls A hx hb hml hown hts hr hlocks hP hN hl hin hD hA hS => ?_)
  have hin : meth.name = _ := hin
  have hK := hN.1
  have hl : lv_has ls 1 [(0, .ref qx)] := hl
  refine lv_aload_n hx hb dX5_init_0 rfl (lv_at hl 0 rfl) ?_
  refine W.objInit hx hb hown (hts _ m_t20) (hts _ m_t21) (hts _ m_t22) rfl (by rw [hml]; exact hl.1) rfl dX5_init_1 (Nat.le_of_ble_eq_true rfl) (Nat.le_of_ble_eq_true rfl) ?_
  refine W.eq (g2 := F0 m 4 ls []) rfl ?_
  refine lv_aload_n hx hb dX5_init_4 rfl (lv_at hl 0 rfl) ?_
  refine va_new (ci := 3) (fs := [.int 0, .int 0, .int 0, .int 0, .int 0, .null, .null, .null, .null, .null, .null, .null, .null]) (C := RX4) (T := TX4) (N := 13) hx hb hts iX_X4 tyX4 tyX4_ok hown (hts _ m_t23) (hts _ m_t24) (hts _ m_t2) hK hP hD hS hA rfl df_X4 (Nat.le_of_ble_eq_true rfl) (Nat.le_of_ble_eq_true rfl) dX5_init_5 (fun q_1 H hP hD hS => ?_)
  have hP : va_P G CL [(qx, .inr (4, [.null, .null, .null, .null, .null, .null, .int 0, .int 0, .int 0])), (q_1, .inr (3, [.int 0, .int 0, .int 0, .int 0, .int 0, .null, .null, .null, .null, .null, .null, .null, .null]))] H := hP
  have hD : va_D A [(qx, .inr (4, [.null, .null, .null, .null, .null, .null, .int 0, .int 0, .int 0])), (q_1, .inr (3, [.int 0, .int 0, .int 0, .int 0, .int 0, .null, .null, .null, .null, .null, .null, .null, .null]))] := hD
  refine W.widen (k := 1) (n := 13) (Nat.le_of_ble_eq_true rfl) (Nat.le_of_ble_eq_true rfl) ?_
  refine lv_dup hx hb dX5_init_8 rfl ?_
  refine kWv (wr := [(qx, .inr (4, [.null, .null, .null, .null, .null, .null, .int 0, .int 0, .int 0]))]) (rIN (As := []) (rest := [.ref q_1, .ref qx]) (b := q_1) ⟨hx, hb, hml, hown, hts⟩ hN (c_X4_init l G cy (H).size q_1) L_X5_9 (preWS hN hP hD [1] rfl (by decide)) rfl ⟨Nat.le_of_ble_eq_true rfl, Nat.le_of_ble_eq_true rfl⟩ hl.1 (Nat.le_of_ble_eq_true rfl) dX5_init_9 ⟨Nat.le_of_ble_eq_true rfl, Nat.le_of_ble_eq_true rfl⟩) hP hD hS hA [1] [0] rfl rfl (by decide) (by decide) (fun u_4 H locs h_3 hP hD hS => ?_)
  obtain ⟨qtw_5, qtn_6, qtg_7, qta_8, qtr_9, qtm_10, qtt_11, qts_12, rfl⟩ := h_3
  have hP : va_P G CL [(qx, .inr (4, [.null, .null, .null, .null, .null, .null, .int 0, .int 0, .int 0])), (q_1, .inr (3, [.int 0, .int 0, .int 0, .int 0, .int 1, .ref qtw_5, .ref qtn_6, .ref qtg_7, .ref qta_8, .ref qtr_9, .ref qtm_10, .ref qtt_11, .ref qts_12])), (qtw_5, .inl (cy 0, 8, .inl (fun _ => 0))), (qtn_6, .inl (cy 0, 8, .inl (fun _ => 0))), (qtg_7, .inl (cy 0, 8, .inl (fun _ => 0))), (qta_8, .inl (cy 0, 8, .inl (fun _ => 0))), (qtr_9, .inl (cy 0, 8, .inl (fun _ => 0))), (qtm_10, .inl (cy 0, 8, .inl (fun _ => 0))), (qtt_11, .inl (cy 0, 8, .inl (fun _ => 0))), (qts_12, .inl (cy 0, 64, .inl (fun _ => 0)))] H := hP
  have hD : va_D A [(qx, .inr (4, [.null, .null, .null, .null, .null, .null, .int 0, .int 0, .int 0])), (q_1, .inr (3, [.int 0, .int 0, .int 0, .int 0, .int 1, .ref qtw_5, .ref qtn_6, .ref qtg_7, .ref qta_8, .ref qtr_9, .ref qtm_10, .ref qtt_11, .ref qts_12])), (qtw_5, .inl (cy 0, 8, .inl (fun _ => 0))), (qtn_6, .inl (cy 0, 8, .inl (fun _ => 0))), (qtg_7, .inl (cy 0, 8, .inl (fun _ => 0))), (qta_8, .inl (cy 0, 8, .inl (fun _ => 0))), (qtr_9, .inl (cy 0, 8, .inl (fun _ => 0))), (qtm_10, .inl (cy 0, 8, .inl (fun _ => 0))), (qtt_11, .inl (cy 0, 8, .inl (fun _ => 0))), (qts_12, .inl (cy 0, 64, .inl (fun _ => 0)))] := hD
  refine W.widen (k := 9) (n := 133) (Nat.le_of_ble_eq_true rfl) (Nat.le_of_ble_eq_true rfl) ?_
  refine va_putF (D := G) (ci := 4) (v := .ref q_1) (ty := (.object "EachBookOnce$Town")) (C := RX5) (T := TX5) (N := 9) hx hb hts iX_X5 tyX5 tyX5_ok nmX5 hown hK hP hD hS 0 rfl rfl 0 (by decide) (hts _ m_t174) (fun _ h9 => h9) rfl hin rfl (by decide +kernel) rfl rfl (Nat.le_of_ble_eq_true rfl) dX5_init_12 (fun H locs hP hD hS => ?_)
  have hP : va_P G CL [(qx, .inr (4, [.ref q_1, .null, .null, .null, .null, .null, .int 0, .int 0, .int 0])), (q_1, .inr (3, [.int 0, .int 0, .int 0, .int 0, .int 1, .ref qtw_5, .ref qtn_6, .ref qtg_7, .ref qta_8, .ref qtr_9, .ref qtm_10, .ref qtt_11, .ref qts_12])), (qtw_5, .inl (cy 0, 8, .inl (fun _ => 0))), (qtn_6, .inl (cy 0, 8, .inl (fun _ => 0))), (qtg_7, .inl (cy 0, 8, .inl (fun _ => 0))), (qta_8, .inl (cy 0, 8, .inl (fun _ => 0))), (qtr_9, .inl (cy 0, 8, .inl (fun _ => 0))), (qtm_10, .inl (cy 0, 8, .inl (fun _ => 0))), (qtt_11, .inl (cy 0, 8, .inl (fun _ => 0))), (qts_12, .inl (cy 0, 64, .inl (fun _ => 0)))] H := hP
  have hD : va_D A [(qx, .inr (4, [.ref q_1, .null, .null, .null, .null, .null, .int 0, .int 0, .int 0])), (q_1, .inr (3, [.int 0, .int 0, .int 0, .int 0, .int 1, .ref qtw_5, .ref qtn_6, .ref qtg_7, .ref qta_8, .ref qtr_9, .ref qtm_10, .ref qtt_11, .ref qts_12])), (qtw_5, .inl (cy 0, 8, .inl (fun _ => 0))), (qtn_6, .inl (cy 0, 8, .inl (fun _ => 0))), (qtg_7, .inl (cy 0, 8, .inl (fun _ => 0))), (qta_8, .inl (cy 0, 8, .inl (fun _ => 0))), (qtr_9, .inl (cy 0, 8, .inl (fun _ => 0))), (qtm_10, .inl (cy 0, 8, .inl (fun _ => 0))), (qtt_11, .inl (cy 0, 8, .inl (fun _ => 0))), (qts_12, .inl (cy 0, 64, .inl (fun _ => 0)))] := hD
  refine lv_aload_n hx hb dX5_init_15 rfl (lv_at hl 0 rfl) ?_
  refine va_new (ci := 3) (fs := [.int 0, .int 0, .int 0, .int 0, .int 0, .null, .null, .null, .null, .null, .null, .null, .null]) (C := RX4) (T := TX4) (N := 13) hx hb hts iX_X4 tyX4 tyX4_ok hown (hts _ m_t23) (hts _ m_t24) (hts _ m_t2) hK hP hD hS hA rfl df_X4 (Nat.le_of_ble_eq_true rfl) (Nat.le_of_ble_eq_true rfl) dX5_init_16 (fun q_13 H hP hD hS => ?_)
  have hP : va_P G CL [(qx, .inr (4, [.ref q_1, .null, .null, .null, .null, .null, .int 0, .int 0, .int 0])), (q_1, .inr (3, [.int 0, .int 0, .int 0, .int 0, .int 1, .ref qtw_5, .ref qtn_6, .ref qtg_7, .ref qta_8, .ref qtr_9, .ref qtm_10, .ref qtt_11, .ref qts_12])), (qtw_5, .inl (cy 0, 8, .inl (fun _ => 0))), (qtn_6, .inl (cy 0, 8, .inl (fun _ => 0))), (qtg_7, .inl (cy 0, 8, .inl (fun _ => 0))), (qta_8, .inl (cy 0, 8, .inl (fun _ => 0))), (qtr_9, .inl (cy 0, 8, .inl (fun _ => 0))), (qtm_10, .inl (cy 0, 8, .inl (fun _ => 0))), (qtt_11, .inl (cy 0, 8, .inl (fun _ => 0))), (qts_12, .inl (cy 0, 64, .inl (fun _ => 0))), (q_13, .inr (3, [.int 0, .int 0, .int 0, .int 0, .int 0, .null, .null, .null, .null, .null, .null, .null, .null]))] H := hP
  have hD : va_D A [(qx, .inr (4, [.ref q_1, .null, .null, .null, .null, .null, .int 0, .int 0, .int 0])), (q_1, .inr (3, [.int 0, .int 0, .int 0, .int 0, .int 1, .ref qtw_5, .ref qtn_6, .ref qtg_7, .ref qta_8, .ref qtr_9, .ref qtm_10, .ref qtt_11, .ref qts_12])), (qtw_5, .inl (cy 0, 8, .inl (fun _ => 0))), (qtn_6, .inl (cy 0, 8, .inl (fun _ => 0))), (qtg_7, .inl (cy 0, 8, .inl (fun _ => 0))), (qta_8, .inl (cy 0, 8, .inl (fun _ => 0))), (qtr_9, .inl (cy 0, 8, .inl (fun _ => 0))), (qtm_10, .inl (cy 0, 8, .inl (fun _ => 0))), (qtt_11, .inl (cy 0, 8, .inl (fun _ => 0))), (qts_12, .inl (cy 0, 64, .inl (fun _ => 0))), (q_13, .inr (3, [.int 0, .int 0, .int 0, .int 0, .int 0, .null, .null, .null, .null, .null, .null, .null, .null]))] := hD
  refine W.widen (k := 10) (n := 146) (Nat.le_of_ble_eq_true rfl) (Nat.le_of_ble_eq_true rfl) ?_
  refine lv_dup hx hb dX5_init_19 rfl ?_
  refine kWv (wr := [(qx, .inr (4, [.ref q_1, .null, .null, .null, .null, .null, .int 0, .int 0, .int 0])), (q_1, .inr (3, [.int 0, .int 0, .int 0, .int 0, .int 1, .ref qtw_5, .ref qtn_6, .ref qtg_7, .ref qta_8, .ref qtr_9, .ref qtm_10, .ref qtt_11, .ref qts_12])), (qtw_5, .inl (cy 0, 8, .inl (fun _ => 0))), (qtn_6, .inl (cy 0, 8, .inl (fun _ => 0))), (qtg_7, .inl (cy 0, 8, .inl (fun _ => 0))), (qta_8, .inl (cy 0, 8, .inl (fun _ => 0))), (qtr_9, .inl (cy 0, 8, .inl (fun _ => 0))), (qtm_10, .inl (cy 0, 8, .inl (fun _ => 0))), (qtt_11, .inl (cy 0, 8, .inl (fun _ => 0))), (qts_12, .inl (cy 0, 64, .inl (fun _ => 0)))]) (rIN (As := []) (rest := [.ref q_13, .ref qx]) (b := q_13) ⟨hx, hb, hml, hown, hts⟩ hN (c_X4_init l G cy (H).size q_13) L_X5_9 (preWS hN hP hD [10] rfl (by decide)) rfl ⟨Nat.le_of_ble_eq_true rfl, Nat.le_of_ble_eq_true rfl⟩ hl.1 (Nat.le_of_ble_eq_true rfl) dX5_init_20 ⟨Nat.le_of_ble_eq_true rfl, Nat.le_of_ble_eq_true rfl⟩) hP hD hS hA [10] [0, 1, 2, 3, 4, 5, 6, 7, 8, 9] rfl rfl (by decide) (by decide) (fun u_16 H locs h_15 hP hD hS => ?_)
  obtain ⟨qtw_17, qtn_18, qtg_19, qta_20, qtr_21, qtm_22, qtt_23, qts_24, rfl⟩ := h_15
  have hP : va_P G CL [(qx, .inr (4, [.ref q_1, .null, .null, .null, .null, .null, .int 0, .int 0, .int 0])), (q_1, .inr (3, [.int 0, .int 0, .int 0, .int 0, .int 1, .ref qtw_5, .ref qtn_6, .ref qtg_7, .ref qta_8, .ref qtr_9, .ref qtm_10, .ref qtt_11, .ref qts_12])), (qtw_5, .inl (cy 0, 8, .inl (fun _ => 0))), (qtn_6, .inl (cy 0, 8, .inl (fun _ => 0))), (qtg_7, .inl (cy 0, 8, .inl (fun _ => 0))), (qta_8, .inl (cy 0, 8, .inl (fun _ => 0))), (qtr_9, .inl (cy 0, 8, .inl (fun _ => 0))), (qtm_10, .inl (cy 0, 8, .inl (fun _ => 0))), (qtt_11, .inl (cy 0, 8, .inl (fun _ => 0))), (qts_12, .inl (cy 0, 64, .inl (fun _ => 0))), (q_13, .inr (3, [.int 0, .int 0, .int 0, .int 0, .int 1, .ref qtw_17, .ref qtn_18, .ref qtg_19, .ref qta_20, .ref qtr_21, .ref qtm_22, .ref qtt_23, .ref qts_24])), (qtw_17, .inl (cy 0, 8, .inl (fun _ => 0))), (qtn_18, .inl (cy 0, 8, .inl (fun _ => 0))), (qtg_19, .inl (cy 0, 8, .inl (fun _ => 0))), (qta_20, .inl (cy 0, 8, .inl (fun _ => 0))), (qtr_21, .inl (cy 0, 8, .inl (fun _ => 0))), (qtm_22, .inl (cy 0, 8, .inl (fun _ => 0))), (qtt_23, .inl (cy 0, 8, .inl (fun _ => 0))), (qts_24, .inl (cy 0, 64, .inl (fun _ => 0)))] H := hP
  have hD : va_D A [(qx, .inr (4, [.ref q_1, .null, .null, .null, .null, .null, .int 0, .int 0, .int 0])), (q_1, .inr (3, [.int 0, .int 0, .int 0, .int 0, .int 1, .ref qtw_5, .ref qtn_6, .ref qtg_7, .ref qta_8, .ref qtr_9, .ref qtm_10, .ref qtt_11, .ref qts_12])), (qtw_5, .inl (cy 0, 8, .inl (fun _ => 0))), (qtn_6, .inl (cy 0, 8, .inl (fun _ => 0))), (qtg_7, .inl (cy 0, 8, .inl (fun _ => 0))), (qta_8, .inl (cy 0, 8, .inl (fun _ => 0))), (qtr_9, .inl (cy 0, 8, .inl (fun _ => 0))), (qtm_10, .inl (cy 0, 8, .inl (fun _ => 0))), (qtt_11, .inl (cy 0, 8, .inl (fun _ => 0))), (qts_12, .inl (cy 0, 64, .inl (fun _ => 0))), (q_13, .inr (3, [.int 0, .int 0, .int 0, .int 0, .int 1, .ref qtw_17, .ref qtn_18, .ref qtg_19, .ref qta_20, .ref qtr_21, .ref qtm_22, .ref qtt_23, .ref qts_24])), (qtw_17, .inl (cy 0, 8, .inl (fun _ => 0))), (qtn_18, .inl (cy 0, 8, .inl (fun _ => 0))), (qtg_19, .inl (cy 0, 8, .inl (fun _ => 0))), (qta_20, .inl (cy 0, 8, .inl (fun _ => 0))), (qtr_21, .inl (cy 0, 8, .inl (fun _ => 0))), (qtm_22, .inl (cy 0, 8, .inl (fun _ => 0))), (qtt_23, .inl (cy 0, 8, .inl (fun _ => 0))), (qts_24, .inl (cy 0, 64, .inl (fun _ => 0)))] := hD
  refine W.widen (k := 18) (n := 266) (Nat.le_of_ble_eq_true rfl) (Nat.le_of_ble_eq_true rfl) ?_
  refine va_putF (D := G) (ci := 4) (v := .ref q_13) (ty := (.object "EachBookOnce$Town")) (C := RX5) (T := TX5) (N := 9) hx hb hts iX_X5 tyX5 tyX5_ok nmX5 hown hK hP hD hS 0 rfl rfl 1 (by decide) (hts _ m_t175) (fun _ h9 => h9) rfl hin rfl (by decide +kernel) rfl rfl (Nat.le_of_ble_eq_true rfl) dX5_init_23 (fun H locs hP hD hS => ?_)
  have hP : va_P G CL [(qx, .inr (4, [.ref q_1, .ref q_13, .null, .null, .null, .null, .int 0, .int 0, .int 0])), (q_1, .inr (3, [.int 0, .int 0, .int 0, .int 0, .int 1, .ref qtw_5, .ref qtn_6, .ref qtg_7, .ref qta_8, .ref qtr_9, .ref qtm_10, .ref qtt_11, .ref qts_12])), (qtw_5, .inl (cy 0, 8, .inl (fun _ => 0))), (qtn_6, .inl (cy 0, 8, .inl (fun _ => 0))), (qtg_7, .inl (cy 0, 8, .inl (fun _ => 0))), (qta_8, .inl (cy 0, 8, .inl (fun _ => 0))), (qtr_9, .inl (cy 0, 8, .inl (fun _ => 0))), (qtm_10, .inl (cy 0, 8, .inl (fun _ => 0))), (qtt_11, .inl (cy 0, 8, .inl (fun _ => 0))), (qts_12, .inl (cy 0, 64, .inl (fun _ => 0))), (q_13, .inr (3, [.int 0, .int 0, .int 0, .int 0, .int 1, .ref qtw_17, .ref qtn_18, .ref qtg_19, .ref qta_20, .ref qtr_21, .ref qtm_22, .ref qtt_23, .ref qts_24])), (qtw_17, .inl (cy 0, 8, .inl (fun _ => 0))), (qtn_18, .inl (cy 0, 8, .inl (fun _ => 0))), (qtg_19, .inl (cy 0, 8, .inl (fun _ => 0))), (qta_20, .inl (cy 0, 8, .inl (fun _ => 0))), (qtr_21, .inl (cy 0, 8, .inl (fun _ => 0))), (qtm_22, .inl (cy 0, 8, .inl (fun _ => 0))), (qtt_23, .inl (cy 0, 8, .inl (fun _ => 0))), (qts_24, .inl (cy 0, 64, .inl (fun _ => 0)))] H := hP
  have hD : va_D A [(qx, .inr (4, [.ref q_1, .ref q_13, .null, .null, .null, .null, .int 0, .int 0, .int 0])), (q_1, .inr (3, [.int 0, .int 0, .int 0, .int 0, .int 1, .ref qtw_5, .ref qtn_6, .ref qtg_7, .ref qta_8, .ref qtr_9, .ref qtm_10, .ref qtt_11, .ref qts_12])), (qtw_5, .inl (cy 0, 8, .inl (fun _ => 0))), (qtn_6, .inl (cy 0, 8, .inl (fun _ => 0))), (qtg_7, .inl (cy 0, 8, .inl (fun _ => 0))), (qta_8, .inl (cy 0, 8, .inl (fun _ => 0))), (qtr_9, .inl (cy 0, 8, .inl (fun _ => 0))), (qtm_10, .inl (cy 0, 8, .inl (fun _ => 0))), (qtt_11, .inl (cy 0, 8, .inl (fun _ => 0))), (qts_12, .inl (cy 0, 64, .inl (fun _ => 0))), (q_13, .inr (3, [.int 0, .int 0, .int 0, .int 0, .int 1, .ref qtw_17, .ref qtn_18, .ref qtg_19, .ref qta_20, .ref qtr_21, .ref qtm_22, .ref qtt_23, .ref qts_24])), (qtw_17, .inl (cy 0, 8, .inl (fun _ => 0))), (qtn_18, .inl (cy 0, 8, .inl (fun _ => 0))), (qtg_19, .inl (cy 0, 8, .inl (fun _ => 0))), (qta_20, .inl (cy 0, 8, .inl (fun _ => 0))), (qtr_21, .inl (cy 0, 8, .inl (fun _ => 0))), (qtm_22, .inl (cy 0, 8, .inl (fun _ => 0))), (qtt_23, .inl (cy 0, 8, .inl (fun _ => 0))), (qts_24, .inl (cy 0, 64, .inl (fun _ => 0)))] := hD
  refine lv_aload_n hx hb dX5_init_26 rfl (lv_at hl 0 rfl) ?_
  refine va_new (ci := 0) (fs := [.null, .null, .int 0, .int 0]) (C := RX0) (T := TX0) (N := 4) hx hb hts iX_X0 tyX0 tyX0_ok hown (hts _ m_t93) (hts _ m_t94) (hts _ m_t3) hK hP hD hS hA rfl df_X0 (Nat.le_of_ble_eq_true rfl) (Nat.le_of_ble_eq_true rfl) dX5_init_27 (fun q_25 H hP hD hS => ?_)
  have hP : va_P G CL [(qx, .inr (4, [.ref q_1, .ref q_13, .null, .null, .null, .null, .int 0, .int 0, .int 0])), (q_1, .inr (3, [.int 0, .int 0, .int 0, .int 0, .int 1, .ref qtw_5, .ref qtn_6, .ref qtg_7, .ref qta_8, .ref qtr_9, .ref qtm_10, .ref qtt_11, .ref qts_12])), (qtw_5, .inl (cy 0, 8, .inl (fun _ => 0))), (qtn_6, .inl (cy 0, 8, .inl (fun _ => 0))), (qtg_7, .inl (cy 0, 8, .inl (fun _ => 0))), (qta_8, .inl (cy 0, 8, .inl (fun _ => 0))), (qtr_9, .inl (cy 0, 8, .inl (fun _ => 0))), (qtm_10, .inl (cy 0, 8, .inl (fun _ => 0))), (qtt_11, .inl (cy 0, 8, .inl (fun _ => 0))), (qts_12, .inl (cy 0, 64, .inl (fun _ => 0))), (q_13, .inr (3, [.int 0, .int 0, .int 0, .int 0, .int 1, .ref qtw_17, .ref qtn_18, .ref qtg_19, .ref qta_20, .ref qtr_21, .ref qtm_22, .ref qtt_23, .ref qts_24])), (qtw_17, .inl (cy 0, 8, .inl (fun _ => 0))), (qtn_18, .inl (cy 0, 8, .inl (fun _ => 0))), (qtg_19, .inl (cy 0, 8, .inl (fun _ => 0))), (qta_20, .inl (cy 0, 8, .inl (fun _ => 0))), (qtr_21, .inl (cy 0, 8, .inl (fun _ => 0))), (qtm_22, .inl (cy 0, 8, .inl (fun _ => 0))), (qtt_23, .inl (cy 0, 8, .inl (fun _ => 0))), (qts_24, .inl (cy 0, 64, .inl (fun _ => 0))), (q_25, .inr (0, [.null, .null, .int 0, .int 0]))] H := hP
  have hD : va_D A [(qx, .inr (4, [.ref q_1, .ref q_13, .null, .null, .null, .null, .int 0, .int 0, .int 0])), (q_1, .inr (3, [.int 0, .int 0, .int 0, .int 0, .int 1, .ref qtw_5, .ref qtn_6, .ref qtg_7, .ref qta_8, .ref qtr_9, .ref qtm_10, .ref qtt_11, .ref qts_12])), (qtw_5, .inl (cy 0, 8, .inl (fun _ => 0))), (qtn_6, .inl (cy 0, 8, .inl (fun _ => 0))), (qtg_7, .inl (cy 0, 8, .inl (fun _ => 0))), (qta_8, .inl (cy 0, 8, .inl (fun _ => 0))), (qtr_9, .inl (cy 0, 8, .inl (fun _ => 0))), (qtm_10, .inl (cy 0, 8, .inl (fun _ => 0))), (qtt_11, .inl (cy 0, 8, .inl (fun _ => 0))), (qts_12, .inl (cy 0, 64, .inl (fun _ => 0))), (q_13, .inr (3, [.int 0, .int 0, .int 0, .int 0, .int 1, .ref qtw_17, .ref qtn_18, .ref qtg_19, .ref qta_20, .ref qtr_21, .ref qtm_22, .ref qtt_23, .ref qts_24])), (qtw_17, .inl (cy 0, 8, .inl (fun _ => 0))), (qtn_18, .inl (cy 0, 8, .inl (fun _ => 0))), (qtg_19, .inl (cy 0, 8, .inl (fun _ => 0))), (qta_20, .inl (cy 0, 8, .inl (fun _ => 0))), (qtr_21, .inl (cy 0, 8, .inl (fun _ => 0))), (qtm_22, .inl (cy 0, 8, .inl (fun _ => 0))), (qtt_23, .inl (cy 0, 8, .inl (fun _ => 0))), (qts_24, .inl (cy 0, 64, .inl (fun _ => 0))), (q_25, .inr (0, [.null, .null, .int 0, .int 0]))] := hD
  refine W.widen (k := 19) (n := 270) (Nat.le_of_ble_eq_true rfl) (Nat.le_of_ble_eq_true rfl) ?_
  refine lv_dup hx hb dX5_init_30 rfl ?_
  refine kWv (wr := [(qx, .inr (4, [.ref q_1, .ref q_13, .null, .null, .null, .null, .int 0, .int 0, .int 0])), (q_1, .inr (3, [.int 0, .int 0, .int 0, .int 0, .int 1, .ref qtw_5, .ref qtn_6, .ref qtg_7, .ref qta_8, .ref qtr_9, .ref qtm_10, .ref qtt_11, .ref qts_12])), (qtw_5, .inl (cy 0, 8, .inl (fun _ => 0))), (qtn_6, .inl (cy 0, 8, .inl (fun _ => 0))), (qtg_7, .inl (cy 0, 8, .inl (fun _ => 0))), (qta_8, .inl (cy 0, 8, .inl (fun _ => 0))), (qtr_9, .inl (cy 0, 8, .inl (fun _ => 0))), (qtm_10, .inl (cy 0, 8, .inl (fun _ => 0))), (qtt_11, .inl (cy 0, 8, .inl (fun _ => 0))), (qts_12, .inl (cy 0, 64, .inl (fun _ => 0))), (q_13, .inr (3, [.int 0, .int 0, .int 0, .int 0, .int 1, .ref qtw_17, .ref qtn_18, .ref qtg_19, .ref qta_20, .ref qtr_21, .ref qtm_22, .ref qtt_23, .ref qts_24])), (qtw_17, .inl (cy 0, 8, .inl (fun _ => 0))), (qtn_18, .inl (cy 0, 8, .inl (fun _ => 0))), (qtg_19, .inl (cy 0, 8, .inl (fun _ => 0))), (qta_20, .inl (cy 0, 8, .inl (fun _ => 0))), (qtr_21, .inl (cy 0, 8, .inl (fun _ => 0))), (qtm_22, .inl (cy 0, 8, .inl (fun _ => 0))), (qtt_23, .inl (cy 0, 8, .inl (fun _ => 0))), (qts_24, .inl (cy 0, 64, .inl (fun _ => 0)))]) (rIN (As := []) (rest := [.ref q_25, .ref qx]) (b := q_25) ⟨hx, hb, hml, hown, hts⟩ hN (c_X0_init l G cy (H).size q_25) L_X5_21 (preWS hN hP hD [19] rfl (by decide)) rfl ⟨Nat.le_of_ble_eq_true rfl, Nat.le_of_ble_eq_true rfl⟩ hl.1 (Nat.le_of_ble_eq_true rfl) dX5_init_31 ⟨Nat.le_of_ble_eq_true rfl, Nat.le_of_ble_eq_true rfl⟩) hP hD hS hA [19] [0, 1, 2, 3, 4, 5, 6, 7, 8, 9, 10, 11, 12, 13, 14, 15, 16, 17, 18] rfl rfl (by decide) (by decide) (fun u_28 H locs h_27 hP hD hS => ?_)
  subst h_27
  have hP : va_P G CL [(qx, .inr (4, [.ref q_1, .ref q_13, .null, .null, .null, .null, .int 0, .int 0, .int 0])), (q_1, .inr (3, [.int 0, .int 0, .int 0, .int 0, .int 1, .ref qtw_5, .ref qtn_6, .ref qtg_7, .ref qta_8, .ref qtr_9, .ref qtm_10, .ref qtt_11, .ref qts_12])), (qtw_5, .inl (cy 0, 8, .inl (fun _ => 0))), (qtn_6, .inl (cy 0, 8, .inl (fun _ => 0))), (qtg_7, .inl (cy 0, 8, .inl (fun _ => 0))), (qta_8, .inl (cy 0, 8, .inl (fun _ => 0))), (qtr_9, .inl (cy 0, 8, .inl (fun _ => 0))), (qtm_10, .inl (cy 0, 8, .inl (fun _ => 0))), (qtt_11, .inl (cy 0, 8, .inl (fun _ => 0))), (qts_12, .inl (cy 0, 64, .inl (fun _ => 0))), (q_13, .inr (3, [.int 0, .int 0, .int 0, .int 0, .int 1, .ref qtw_17, .ref qtn_18, .ref qtg_19, .ref qta_20, .ref qtr_21, .ref qtm_22, .ref qtt_23, .ref qts_24])), (qtw_17, .inl (cy 0, 8, .inl (fun _ => 0))), (qtn_18, .inl (cy 0, 8, .inl (fun _ => 0))), (qtg_19, .inl (cy 0, 8, .inl (fun _ => 0))), (qta_20, .inl (cy 0, 8, .inl (fun _ => 0))), (qtr_21, .inl (cy 0, 8, .inl (fun _ => 0))), (qtm_22, .inl (cy 0, 8, .inl (fun _ => 0))), (qtt_23, .inl (cy 0, 8, .inl (fun _ => 0))), (qts_24, .inl (cy 0, 64, .inl (fun _ => 0)))] H := hP
  have hD : va_D A [(qx, .inr (4, [.ref q_1, .ref q_13, .null, .null, .null, .null, .int 0, .int 0, .int 0])), (q_1, .inr (3, [.int 0, .int 0, .int 0, .int 0, .int 1, .ref qtw_5, .ref qtn_6, .ref qtg_7, .ref qta_8, .ref qtr_9, .ref qtm_10, .ref qtt_11, .ref qts_12])), (qtw_5, .inl (cy 0, 8, .inl (fun _ => 0))), (qtn_6, .inl (cy 0, 8, .inl (fun _ => 0))), (qtg_7, .inl (cy 0, 8, .inl (fun _ => 0))), (qta_8, .inl (cy 0, 8, .inl (fun _ => 0))), (qtr_9, .inl (cy 0, 8, .inl (fun _ => 0))), (qtm_10, .inl (cy 0, 8, .inl (fun _ => 0))), (qtt_11, .inl (cy 0, 8, .inl (fun _ => 0))), (qts_12, .inl (cy 0, 64, .inl (fun _ => 0))), (q_13, .inr (3, [.int 0, .int 0, .int 0, .int 0, .int 1, .ref qtw_17, .ref qtn_18, .ref qtg_19, .ref qta_20, .ref qtr_21, .ref qtm_22, .ref qtt_23, .ref qts_24])), (qtw_17, .inl (cy 0, 8, .inl (fun _ => 0))), (qtn_18, .inl (cy 0, 8, .inl (fun _ => 0))), (qtg_19, .inl (cy 0, 8, .inl (fun _ => 0))), (qta_20, .inl (cy 0, 8, .inl (fun _ => 0))), (qtr_21, .inl (cy 0, 8, .inl (fun _ => 0))), (qtm_22, .inl (cy 0, 8, .inl (fun _ => 0))), (qtt_23, .inl (cy 0, 8, .inl (fun _ => 0))), (qts_24, .inl (cy 0, 64, .inl (fun _ => 0)))] := hD
  refine W.widen (k := 37) (n := 536) (Nat.le_of_ble_eq_true rfl) (Nat.le_of_ble_eq_true rfl) ?_
  refine va_putF (D := G) (ci := 4) (v := .ref q_25) (ty := (.object "EachBookOnce$Plans")) (C := RX5) (T := TX5) (N := 9) hx hb hts iX_X5 tyX5 tyX5_ok nmX5 hown hK hP hD hS 0 rfl rfl 2 (by decide) (hts _ m_t176) (fun _ h9 => h9) rfl hin rfl (by decide +kernel) rfl rfl (Nat.le_of_ble_eq_true rfl) dX5_init_34 (fun H locs hP hD hS => ?_)
  have hP : va_P G CL [(qx, .inr (4, [.ref q_1, .ref q_13, .ref q_25, .null, .null, .null, .int 0, .int 0, .int 0])), (q_1, .inr (3, [.int 0, .int 0, .int 0, .int 0, .int 1, .ref qtw_5, .ref qtn_6, .ref qtg_7, .ref qta_8, .ref qtr_9, .ref qtm_10, .ref qtt_11, .ref qts_12])), (qtw_5, .inl (cy 0, 8, .inl (fun _ => 0))), (qtn_6, .inl (cy 0, 8, .inl (fun _ => 0))), (qtg_7, .inl (cy 0, 8, .inl (fun _ => 0))), (qta_8, .inl (cy 0, 8, .inl (fun _ => 0))), (qtr_9, .inl (cy 0, 8, .inl (fun _ => 0))), (qtm_10, .inl (cy 0, 8, .inl (fun _ => 0))), (qtt_11, .inl (cy 0, 8, .inl (fun _ => 0))), (qts_12, .inl (cy 0, 64, .inl (fun _ => 0))), (q_13, .inr (3, [.int 0, .int 0, .int 0, .int 0, .int 1, .ref qtw_17, .ref qtn_18, .ref qtg_19, .ref qta_20, .ref qtr_21, .ref qtm_22, .ref qtt_23, .ref qts_24])), (qtw_17, .inl (cy 0, 8, .inl (fun _ => 0))), (qtn_18, .inl (cy 0, 8, .inl (fun _ => 0))), (qtg_19, .inl (cy 0, 8, .inl (fun _ => 0))), (qta_20, .inl (cy 0, 8, .inl (fun _ => 0))), (qtr_21, .inl (cy 0, 8, .inl (fun _ => 0))), (qtm_22, .inl (cy 0, 8, .inl (fun _ => 0))), (qtt_23, .inl (cy 0, 8, .inl (fun _ => 0))), (qts_24, .inl (cy 0, 64, .inl (fun _ => 0)))] H := hP
  have hD : va_D A [(qx, .inr (4, [.ref q_1, .ref q_13, .ref q_25, .null, .null, .null, .int 0, .int 0, .int 0])), (q_1, .inr (3, [.int 0, .int 0, .int 0, .int 0, .int 1, .ref qtw_5, .ref qtn_6, .ref qtg_7, .ref qta_8, .ref qtr_9, .ref qtm_10, .ref qtt_11, .ref qts_12])), (qtw_5, .inl (cy 0, 8, .inl (fun _ => 0))), (qtn_6, .inl (cy 0, 8, .inl (fun _ => 0))), (qtg_7, .inl (cy 0, 8, .inl (fun _ => 0))), (qta_8, .inl (cy 0, 8, .inl (fun _ => 0))), (qtr_9, .inl (cy 0, 8, .inl (fun _ => 0))), (qtm_10, .inl (cy 0, 8, .inl (fun _ => 0))), (qtt_11, .inl (cy 0, 8, .inl (fun _ => 0))), (qts_12, .inl (cy 0, 64, .inl (fun _ => 0))), (q_13, .inr (3, [.int 0, .int 0, .int 0, .int 0, .int 1, .ref qtw_17, .ref qtn_18, .ref qtg_19, .ref qta_20, .ref qtr_21, .ref qtm_22, .ref qtt_23, .ref qts_24])), (qtw_17, .inl (cy 0, 8, .inl (fun _ => 0))), (qtn_18, .inl (cy 0, 8, .inl (fun _ => 0))), (qtg_19, .inl (cy 0, 8, .inl (fun _ => 0))), (qta_20, .inl (cy 0, 8, .inl (fun _ => 0))), (qtr_21, .inl (cy 0, 8, .inl (fun _ => 0))), (qtm_22, .inl (cy 0, 8, .inl (fun _ => 0))), (qtt_23, .inl (cy 0, 8, .inl (fun _ => 0))), (qts_24, .inl (cy 0, 64, .inl (fun _ => 0)))] := hD
  refine lv_aload_n hx hb dX5_init_37 rfl (lv_at hl 0 rfl) ?_
  refine va_new (ci := 1) (fs := [.null, .null, .null, .null]) (C := RX2) (T := TX2) (N := 4) hx hb hts iX_X2 tyX2 tyX2_ok hown (hts _ m_t117) (hts _ m_t118) (hts _ m_t4) hK hP hD hS hA rfl df_X2 (Nat.le_of_ble_eq_true rfl) (Nat.le_of_ble_eq_true rfl) dX5_init_38 (fun q_29 H hP hD hS => ?_)
  have hP : va_P G CL [(qx, .inr (4, [.ref q_1, .ref q_13, .ref q_25, .null, .null, .null, .int 0, .int 0, .int 0])), (q_1, .inr (3, [.int 0, .int 0, .int 0, .int 0, .int 1, .ref qtw_5, .ref qtn_6, .ref qtg_7, .ref qta_8, .ref qtr_9, .ref qtm_10, .ref qtt_11, .ref qts_12])), (qtw_5, .inl (cy 0, 8, .inl (fun _ => 0))), (qtn_6, .inl (cy 0, 8, .inl (fun _ => 0))), (qtg_7, .inl (cy 0, 8, .inl (fun _ => 0))), (qta_8, .inl (cy 0, 8, .inl (fun _ => 0))), (qtr_9, .inl (cy 0, 8, .inl (fun _ => 0))), (qtm_10, .inl (cy 0, 8, .inl (fun _ => 0))), (qtt_11, .inl (cy 0, 8, .inl (fun _ => 0))), (qts_12, .inl (cy 0, 64, .inl (fun _ => 0))), (q_13, .inr (3, [.int 0, .int 0, .int 0, .int 0, .int 1, .ref qtw_17, .ref qtn_18, .ref qtg_19, .ref qta_20, .ref qtr_21, .ref qtm_22, .ref qtt_23, .ref qts_24])), (qtw_17, .inl (cy 0, 8, .inl (fun _ => 0))), (qtn_18, .inl (cy 0, 8, .inl (fun _ => 0))), (qtg_19, .inl (cy 0, 8, .inl (fun _ => 0))), (qta_20, .inl (cy 0, 8, .inl (fun _ => 0))), (qtr_21, .inl (cy 0, 8, .inl (fun _ => 0))), (qtm_22, .inl (cy 0, 8, .inl (fun _ => 0))), (qtt_23, .inl (cy 0, 8, .inl (fun _ => 0))), (qts_24, .inl (cy 0, 64, .inl (fun _ => 0))), (q_29, .inr (1, [.null, .null, .null, .null]))] H := hP
  have hD : va_D A [(qx, .inr (4, [.ref q_1, .ref q_13, .ref q_25, .null, .null, .null, .int 0, .int 0, .int 0])), (q_1, .inr (3, [.int 0, .int 0, .int 0, .int 0, .int 1, .ref qtw_5, .ref qtn_6, .ref qtg_7, .ref qta_8, .ref qtr_9, .ref qtm_10, .ref qtt_11, .ref qts_12])), (qtw_5, .inl (cy 0, 8, .inl (fun _ => 0))), (qtn_6, .inl (cy 0, 8, .inl (fun _ => 0))), (qtg_7, .inl (cy 0, 8, .inl (fun _ => 0))), (qta_8, .inl (cy 0, 8, .inl (fun _ => 0))), (qtr_9, .inl (cy 0, 8, .inl (fun _ => 0))), (qtm_10, .inl (cy 0, 8, .inl (fun _ => 0))), (qtt_11, .inl (cy 0, 8, .inl (fun _ => 0))), (qts_12, .inl (cy 0, 64, .inl (fun _ => 0))), (q_13, .inr (3, [.int 0, .int 0, .int 0, .int 0, .int 1, .ref qtw_17, .ref qtn_18, .ref qtg_19, .ref qta_20, .ref qtr_21, .ref qtm_22, .ref qtt_23, .ref qts_24])), (qtw_17, .inl (cy 0, 8, .inl (fun _ => 0))), (qtn_18, .inl (cy 0, 8, .inl (fun _ => 0))), (qtg_19, .inl (cy 0, 8, .inl (fun _ => 0))), (qta_20, .inl (cy 0, 8, .inl (fun _ => 0))), (qtr_21, .inl (cy 0, 8, .inl (fun _ => 0))), (qtm_22, .inl (cy 0, 8, .inl (fun _ => 0))), (qtt_23, .inl (cy 0, 8, .inl (fun _ => 0))), (qts_24, .inl (cy 0, 64, .inl (fun _ => 0))), (q_29, .inr (1, [.null, .null, .null, .null]))] := hD
  refine W.widen (k := 38) (n := 540) (Nat.le_of_ble_eq_true rfl) (Nat.le_of_ble_eq_true rfl) ?_
  refine lv_dup hx hb dX5_init_41 rfl ?_
  refine kWv (wr := [(qx, .inr (4, [.ref q_1, .ref q_13, .ref q_25, .null, .null, .null, .int 0, .int 0, .int 0])), (q_1, .inr (3, [.int 0, .int 0, .int 0, .int 0, .int 1, .ref qtw_5, .ref qtn_6, .ref qtg_7, .ref qta_8, .ref qtr_9, .ref qtm_10, .ref qtt_11, .ref qts_12])), (qtw_5, .inl (cy 0, 8, .inl (fun _ => 0))), (qtn_6, .inl (cy 0, 8, .inl (fun _ => 0))), (qtg_7, .inl (cy 0, 8, .inl (fun _ => 0))), (qta_8, .inl (cy 0, 8, .inl (fun _ => 0))), (qtr_9, .inl (cy 0, 8, .inl (fun _ => 0))), (qtm_10, .inl (cy 0, 8, .inl (fun _ => 0))), (qtt_11, .inl (cy 0, 8, .inl (fun _ => 0))), (qts_12, .inl (cy 0, 64, .inl (fun _ => 0))), (q_13, .inr (3, [.int 0, .int 0, .int 0, .int 0, .int 1, .ref qtw_17, .ref qtn_18, .ref qtg_19, .ref qta_20, .ref qtr_21, .ref qtm_22, .ref qtt_23, .ref qts_24])), (qtw_17, .inl (cy 0, 8, .inl (fun _ => 0))), (qtn_18, .inl (cy 0, 8, .inl (fun _ => 0))), (qtg_19, .inl (cy 0, 8, .inl (fun _ => 0))), (qta_20, .inl (cy 0, 8, .inl (fun _ => 0))), (qtr_21, .inl (cy 0, 8, .inl (fun _ => 0))), (qtm_22, .inl (cy 0, 8, .inl (fun _ => 0))), (qtt_23, .inl (cy 0, 8, .inl (fun _ => 0))), (qts_24, .inl (cy 0, 64, .inl (fun _ => 0)))]) (rI (As := []) (rest := [.ref q_29, .ref qx]) (b := q_29) ⟨hx, hb, hml, hown, hts⟩ (c_X2_init l G cy (H).size q_29) L_X5_28 (preWS hN hP hD [19] rfl (by decide)) rfl ⟨Nat.le_of_ble_eq_true rfl, Nat.le_of_ble_eq_true rfl⟩ hl.1 (Nat.le_of_ble_eq_true rfl) dX5_init_42 ⟨Nat.le_of_ble_eq_true rfl, Nat.le_of_ble_eq_true rfl⟩) hP hD hS hA [19] [0, 1, 2, 3, 4, 5, 6, 7, 8, 9, 10, 11, 12, 13, 14, 15, 16, 17, 18] rfl rfl (by decide) (by decide) (fun u_32 H locs h_31 hP hD hS => ?_)
  obtain ⟨qsh_33, qss_34, qsa_35, qse_36, fH_37, rfl, h_38⟩ := h_31
  have hP : va_P G CL [(qx, .inr (4, [.ref q_1, .ref q_13, .ref q_25, .null, .null, .null, .int 0, .int 0, .int 0])), (q_1, .inr (3, [.int 0, .int 0, .int 0, .int 0, .int 1, .ref qtw_5, .ref qtn_6, .ref qtg_7, .ref qta_8, .ref qtr_9, .ref qtm_10, .ref qtt_11, .ref qts_12])), (qtw_5, .inl (cy 0, 8, .inl (fun _ => 0))), (qtn_6, .inl (cy 0, 8, .inl (fun _ => 0))), (qtg_7, .inl (cy 0, 8, .inl (fun _ => 0))), (qta_8, .inl (cy 0, 8, .inl (fun _ => 0))), (qtr_9, .inl (cy 0, 8, .inl (fun _ => 0))), (qtm_10, .inl (cy 0, 8, .inl (fun _ => 0))), (qtt_11, .inl (cy 0, 8, .inl (fun _ => 0))), (qts_12, .inl (cy 0, 64, .inl (fun _ => 0))), (q_13, .inr (3, [.int 0, .int 0, .int 0, .int 0, .int 1, .ref qtw_17, .ref qtn_18, .ref qtg_19, .ref qta_20, .ref qtr_21, .ref qtm_22, .ref qtt_23, .ref qts_24])), (qtw_17, .inl (cy 0, 8, .inl (fun _ => 0))), (qtn_18, .inl (cy 0, 8, .inl (fun _ => 0))), (qtg_19, .inl (cy 0, 8, .inl (fun _ => 0))), (qta_20, .inl (cy 0, 8, .inl (fun _ => 0))), (qtr_21, .inl (cy 0, 8, .inl (fun _ => 0))), (qtm_22, .inl (cy 0, 8, .inl (fun _ => 0))), (qtt_23, .inl (cy 0, 8, .inl (fun _ => 0))), (qts_24, .inl (cy 0, 64, .inl (fun _ => 0))), (q_29, .inr (1, [.ref qsh_33, .ref qss_34, .ref qsa_35, .ref qse_36])), (qsh_33, .inl (cy 0, 8, .inl fH_37)), (qss_34, .inl (cy 0, 8, .inl (fun _ => 0))), (qsa_35, .inl (cy 0, 8, .inl (fun _ => 0))), (qse_36, .inl (cy 1, 320, .inr (.inl (fun _ => 0))))] H := hP
  have hD : va_D A [(qx, .inr (4, [.ref q_1, .ref q_13, .ref q_25, .null, .null, .null, .int 0, .int 0, .int 0])), (q_1, .inr (3, [.int 0, .int 0, .int 0, .int 0, .int 1, .ref qtw_5, .ref qtn_6, .ref qtg_7, .ref qta_8, .ref qtr_9, .ref qtm_10, .ref qtt_11, .ref qts_12])), (qtw_5, .inl (cy 0, 8, .inl (fun _ => 0))), (qtn_6, .inl (cy 0, 8, .inl (fun _ => 0))), (qtg_7, .inl (cy 0, 8, .inl (fun _ => 0))), (qta_8, .inl (cy 0, 8, .inl (fun _ => 0))), (qtr_9, .inl (cy 0, 8, .inl (fun _ => 0))), (qtm_10, .inl (cy 0, 8, .inl (fun _ => 0))), (qtt_11, .inl (cy 0, 8, .inl (fun _ => 0))), (qts_12, .inl (cy 0, 64, .inl (fun _ => 0))), (q_13, .inr (3, [.int 0, .int 0, .int 0, .int 0, .int 1, .ref qtw_17, .ref qtn_18, .ref qtg_19, .ref qta_20, .ref qtr_21, .ref qtm_22, .ref qtt_23, .ref qts_24])), (qtw_17, .inl (cy 0, 8, .inl (fun _ => 0))), (qtn_18, .inl (cy 0, 8, .inl (fun _ => 0))), (qtg_19, .inl (cy 0, 8, .inl (fun _ => 0))), (qta_20, .inl (cy 0, 8, .inl (fun _ => 0))), (qtr_21, .inl (cy 0, 8, .inl (fun _ => 0))), (qtm_22, .inl (cy 0, 8, .inl (fun _ => 0))), (qtt_23, .inl (cy 0, 8, .inl (fun _ => 0))), (qts_24, .inl (cy 0, 64, .inl (fun _ => 0))), (q_29, .inr (1, [.ref qsh_33, .ref qss_34, .ref qsa_35, .ref qse_36])), (qsh_33, .inl (cy 0, 8, .inl fH_37)), (qss_34, .inl (cy 0, 8, .inl (fun _ => 0))), (qsa_35, .inl (cy 0, 8, .inl (fun _ => 0))), (qse_36, .inl (cy 1, 320, .inr (.inl (fun _ => 0))))] := hD
  refine W.widen (k := 42) (n := 884) (Nat.le_of_ble_eq_true rfl) (Nat.le_of_ble_eq_true rfl) ?_
  refine va_putF (D := G) (ci := 4) (v := .ref q_29) (ty := (.object "EachBookOnce$Shelves")) (C := RX5) (T := TX5) (N := 9) hx hb hts iX_X5 tyX5 tyX5_ok nmX5 hown hK hP hD hS 0 rfl rfl 3 (by decide) (hts _ m_t177) (fun _ h9 => h9) rfl hin rfl (by decide +kernel) rfl rfl (Nat.le_of_ble_eq_true rfl) dX5_init_45 (fun H locs hP hD hS => ?_)
  have hP : va_P G CL [(qx, .inr (4, [.ref q_1, .ref q_13, .ref q_25, .ref q_29, .null, .null, .int 0, .int 0, .int 0])), (q_1, .inr (3, [.int 0, .int 0, .int 0, .int 0, .int 1, .ref qtw_5, .ref qtn_6, .ref qtg_7, .ref qta_8, .ref qtr_9, .ref qtm_10, .ref qtt_11, .ref qts_12])), (qtw_5, .inl (cy 0, 8, .inl (fun _ => 0))), (qtn_6, .inl (cy 0, 8, .inl (fun _ => 0))), (qtg_7, .inl (cy 0, 8, .inl (fun _ => 0))), (qta_8, .inl (cy 0, 8, .inl (fun _ => 0))), (qtr_9, .inl (cy 0, 8, .inl (fun _ => 0))), (qtm_10, .inl (cy 0, 8, .inl (fun _ => 0))), (qtt_11, .inl (cy 0, 8, .inl (fun _ => 0))), (qts_12, .inl (cy 0, 64, .inl (fun _ => 0))), (q_13, .inr (3, [.int 0, .int 0, .int 0, .int 0, .int 1, .ref qtw_17, .ref qtn_18, .ref qtg_19, .ref qta_20, .ref qtr_21, .ref qtm_22, .ref qtt_23, .ref qts_24])), (qtw_17, .inl (cy 0, 8, .inl (fun _ => 0))), (qtn_18, .inl (cy 0, 8, .inl (fun _ => 0))), (qtg_19, .inl (cy 0, 8, .inl (fun _ => 0))), (qta_20, .inl (cy 0, 8, .inl (fun _ => 0))), (qtr_21, .inl (cy 0, 8, .inl (fun _ => 0))), (qtm_22, .inl (cy 0, 8, .inl (fun _ => 0))), (qtt_23, .inl (cy 0, 8, .inl (fun _ => 0))), (qts_24, .inl (cy 0, 64, .inl (fun _ => 0))), (q_29, .inr (1, [.ref qsh_33, .ref qss_34, .ref qsa_35, .ref qse_36])), (qsh_33, .inl (cy 0, 8, .inl fH_37)), (qss_34, .inl (cy 0, 8, .inl (fun _ => 0))), (qsa_35, .inl (cy 0, 8, .inl (fun _ => 0))), (qse_36, .inl (cy 1, 320, .inr (.inl (fun _ => 0))))] H := hP
  have hD : va_D A [(qx, .inr (4, [.ref q_1, .ref q_13, .ref q_25, .ref q_29, .null, .null, .int 0, .int 0, .int 0])), (q_1, .inr (3, [.int 0, .int 0, .int 0, .int 0, .int 1, .ref qtw_5, .ref qtn_6, .ref qtg_7, .ref qta_8, .ref qtr_9, .ref qtm_10, .ref qtt_11, .ref qts_12])), (qtw_5, .inl (cy 0, 8, .inl (fun _ => 0))), (qtn_6, .inl (cy 0, 8, .inl (fun _ => 0))), (qtg_7, .inl (cy 0, 8, .inl (fun _ => 0))), (qta_8, .inl (cy 0, 8, .inl (fun _ => 0))), (qtr_9, .inl (cy 0, 8, .inl (fun _ => 0))), (qtm_10, .inl (cy 0, 8, .inl (fun _ => 0))), (qtt_11, .inl (cy 0, 8, .inl (fun _ => 0))), (qts_12, .inl (cy 0, 64, .inl (fun _ => 0))), (q_13, .inr (3, [.int 0, .int 0, .int 0, .int 0, .int 1, .ref qtw_17, .ref qtn_18, .ref qtg_19, .ref qta_20, .ref qtr_21, .ref qtm_22, .ref qtt_23, .ref qts_24])), (qtw_17, .inl (cy 0, 8, .inl (fun _ => 0))), (qtn_18, .inl (cy 0, 8, .inl (fun _ => 0))), (qtg_19, .inl (cy 0, 8, .inl (fun _ => 0))), (qta_20, .inl (cy 0, 8, .inl (fun _ => 0))), (qtr_21, .inl (cy 0, 8, .inl (fun _ => 0))), (qtm_22, .inl (cy 0, 8, .inl (fun _ => 0))), (qtt_23, .inl (cy 0, 8, .inl (fun _ => 0))), (qts_24, .inl (cy 0, 64, .inl (fun _ => 0))), (q_29, .inr (1, [.ref qsh_33, .ref qss_34, .ref qsa_35, .ref qse_36])), (qsh_33, .inl (cy 0, 8, .inl fH_37)), (qss_34, .inl (cy 0, 8, .inl (fun _ => 0))), (qsa_35, .inl (cy 0, 8, .inl (fun _ => 0))), (qse_36, .inl (cy 1, 320, .inr (.inl (fun _ => 0))))] := hD
  refine lv_aload_n hx hb dX5_init_48 rfl (lv_at hl 0 rfl) ?_
  refine va_new (ci := 2) (fs := [.null, .int 0, .int 0, .int 0, .int 0, .int 0, .null]) (C := RX3) (T := TX3) (N := 7) hx hb hts iX_X3 tyX3 tyX3_ok hown (hts _ m_t140) (hts _ m_t141) (hts _ m_t5) hK hP hD hS hA rfl df_X3 (Nat.le_of_ble_eq_true rfl) (Nat.le_of_ble_eq_true rfl) dX5_init_49 (fun q_39 H hP hD hS => ?_)
  have hP : va_P G CL [(qx, .inr (4, [.ref q_1, .ref q_13, .ref q_25, .ref q_29, .null, .null, .int 0, .int 0, .int 0])), (q_1, .inr (3, [.int 0, .int 0, .int 0, .int 0, .int 1, .ref qtw_5, .ref qtn_6, .ref qtg_7, .ref qta_8, .ref qtr_9, .ref qtm_10, .ref qtt_11, .ref qts_12])), (qtw_5, .inl (cy 0, 8, .inl (fun _ => 0))), (qtn_6, .inl (cy 0, 8, .inl (fun _ => 0))), (qtg_7, .inl (cy 0, 8, .inl (fun _ => 0))), (qta_8, .inl (cy 0, 8, .inl (fun _ => 0))), (qtr_9, .inl (cy 0, 8, .inl (fun _ => 0))), (qtm_10, .inl (cy 0, 8, .inl (fun _ => 0))), (qtt_11, .inl (cy 0, 8, .inl (fun _ => 0))), (qts_12, .inl (cy 0, 64, .inl (fun _ => 0))), (q_13, .inr (3, [.int 0, .int 0, .int 0, .int 0, .int 1, .ref qtw_17, .ref qtn_18, .ref qtg_19, .ref qta_20, .ref qtr_21, .ref qtm_22, .ref qtt_23, .ref qts_24])), (qtw_17, .inl (cy 0, 8, .inl (fun _ => 0))), (qtn_18, .inl (cy 0, 8, .inl (fun _ => 0))), (qtg_19, .inl (cy 0, 8, .inl (fun _ => 0))), (qta_20, .inl (cy 0, 8, .inl (fun _ => 0))), (qtr_21, .inl (cy 0, 8, .inl (fun _ => 0))), (qtm_22, .inl (cy 0, 8, .inl (fun _ => 0))), (qtt_23, .inl (cy 0, 8, .inl (fun _ => 0))), (qts_24, .inl (cy 0, 64, .inl (fun _ => 0))), (q_29, .inr (1, [.ref qsh_33, .ref qss_34, .ref qsa_35, .ref qse_36])), (qsh_33, .inl (cy 0, 8, .inl fH_37)), (qss_34, .inl (cy 0, 8, .inl (fun _ => 0))), (qsa_35, .inl (cy 0, 8, .inl (fun _ => 0))), (qse_36, .inl (cy 1, 320, .inr (.inl (fun _ => 0)))), (q_39, .inr (2, [.null, .int 0, .int 0, .int 0, .int 0, .int 0, .null]))] H := hP
  have hD : va_D A [(qx, .inr (4, [.ref q_1, .ref q_13, .ref q_25, .ref q_29, .null, .null, .int 0, .int 0, .int 0])), (q_1, .inr (3, [.int 0, .int 0, .int 0, .int 0, .int 1, .ref qtw_5, .ref qtn_6, .ref qtg_7, .ref qta_8, .ref qtr_9, .ref qtm_10, .ref qtt_11, .ref qts_12])), (qtw_5, .inl (cy 0, 8, .inl (fun _ => 0))), (qtn_6, .inl (cy 0, 8, .inl (fun _ => 0))), (qtg_7, .inl (cy 0, 8, .inl (fun _ => 0))), (qta_8, .inl (cy 0, 8, .inl (fun _ => 0))), (qtr_9, .inl (cy 0, 8, .inl (fun _ => 0))), (qtm_10, .inl (cy 0, 8, .inl (fun _ => 0))), (qtt_11, .inl (cy 0, 8, .inl (fun _ => 0))), (qts_12, .inl (cy 0, 64, .inl (fun _ => 0))), (q_13, .inr (3, [.int 0, .int 0, .int 0, .int 0, .int 1, .ref qtw_17, .ref qtn_18, .ref qtg_19, .ref qta_20, .ref qtr_21, .ref qtm_22, .ref qtt_23, .ref qts_24])), (qtw_17, .inl (cy 0, 8, .inl (fun _ => 0))), (qtn_18, .inl (cy 0, 8, .inl (fun _ => 0))), (qtg_19, .inl (cy 0, 8, .inl (fun _ => 0))), (qta_20, .inl (cy 0, 8, .inl (fun _ => 0))), (qtr_21, .inl (cy 0, 8, .inl (fun _ => 0))), (qtm_22, .inl (cy 0, 8, .inl (fun _ => 0))), (qtt_23, .inl (cy 0, 8, .inl (fun _ => 0))), (qts_24, .inl (cy 0, 64, .inl (fun _ => 0))), (q_29, .inr (1, [.ref qsh_33, .ref qss_34, .ref qsa_35, .ref qse_36])), (qsh_33, .inl (cy 0, 8, .inl fH_37)), (qss_34, .inl (cy 0, 8, .inl (fun _ => 0))), (qsa_35, .inl (cy 0, 8, .inl (fun _ => 0))), (qse_36, .inl (cy 1, 320, .inr (.inl (fun _ => 0)))), (q_39, .inr (2, [.null, .int 0, .int 0, .int 0, .int 0, .int 0, .null]))] := hD
  refine W.widen (k := 43) (n := 891) (Nat.le_of_ble_eq_true rfl) (Nat.le_of_ble_eq_true rfl) ?_
  refine lv_dup hx hb dX5_init_52 rfl ?_
  refine kWv (wr := [(qx, .inr (4, [.ref q_1, .ref q_13, .ref q_25, .ref q_29, .null, .null, .int 0, .int 0, .int 0])), (q_1, .inr (3, [.int 0, .int 0, .int 0, .int 0, .int 1, .ref qtw_5, .ref qtn_6, .ref qtg_7, .ref qta_8, .ref qtr_9, .ref qtm_10, .ref qtt_11, .ref qts_12])), (qtw_5, .inl (cy 0, 8, .inl (fun _ => 0))), (qtn_6, .inl (cy 0, 8, .inl (fun _ => 0))), (qtg_7, .inl (cy 0, 8, .inl (fun _ => 0))), (qta_8, .inl (cy 0, 8, .inl (fun _ => 0))), (qtr_9, .inl (cy 0, 8, .inl (fun _ => 0))), (qtm_10, .inl (cy 0, 8, .inl (fun _ => 0))), (qtt_11, .inl (cy 0, 8, .inl (fun _ => 0))), (qts_12, .inl (cy 0, 64, .inl (fun _ => 0))), (q_13, .inr (3, [.int 0, .int 0, .int 0, .int 0, .int 1, .ref qtw_17, .ref qtn_18, .ref qtg_19, .ref qta_20, .ref qtr_21, .ref qtm_22, .ref qtt_23, .ref qts_24])), (qtw_17, .inl (cy 0, 8, .inl (fun _ => 0))), (qtn_18, .inl (cy 0, 8, .inl (fun _ => 0))), (qtg_19, .inl (cy 0, 8, .inl (fun _ => 0))), (qta_20, .inl (cy 0, 8, .inl (fun _ => 0))), (qtr_21, .inl (cy 0, 8, .inl (fun _ => 0))), (qtm_22, .inl (cy 0, 8, .inl (fun _ => 0))), (qtt_23, .inl (cy 0, 8, .inl (fun _ => 0))), (qts_24, .inl (cy 0, 64, .inl (fun _ => 0))), (q_29, .inr (1, [.ref qsh_33, .ref qss_34, .ref qsa_35, .ref qse_36])), (qsh_33, .inl (cy 0, 8, .inl fH_37)), (qss_34, .inl (cy 0, 8, .inl (fun _ => 0))), (qsa_35, .inl (cy 0, 8, .inl (fun _ => 0))), (qse_36, .inl (cy 1, 320, .inr (.inl (fun _ => 0))))]) (rIN (As := []) (rest := [.ref q_39, .ref qx]) (b := q_39) ⟨hx, hb, hml, hown, hts⟩ hN (c_X3_init l G cy (H).size q_39) L_X5_35 (preWS hN hP hD [24] rfl (by decide)) rfl ⟨Nat.le_of_ble_eq_true rfl, Nat.le_of_ble_eq_true rfl⟩ hl.1 (Nat.le_of_ble_eq_true rfl) dX5_init_53 ⟨Nat.le_of_ble_eq_true rfl, Nat.le_of_ble_eq_true rfl⟩) hP hD hS hA [24] [0, 1, 2, 3, 4, 5, 6, 7, 8, 9, 10, 11, 12, 13, 14, 15, 16, 17, 18, 19, 20, 21, 22, 23] rfl rfl (by decide) (by decide) (fun u_42 H locs h_41 hP hD hS => ?_)
  obtain ⟨qab_43, qd_44, qdw_45, qdn_46, qdg_47, qda_48, qdr_49, qdm_50, qdt_51, qds_52, rfl⟩ := h_41
  have hP : va_P G CL [(qx, .inr (4, [.ref q_1, .ref q_13, .ref q_25, .ref q_29, .null, .null, .int 0, .int 0, .int 0])), (q_1, .inr (3, [.int 0, .int 0, .int 0, .int 0, .int 1, .ref qtw_5, .ref qtn_6, .ref qtg_7, .ref qta_8, .ref qtr_9, .ref qtm_10, .ref qtt_11, .ref qts_12])), (qtw_5, .inl (cy 0, 8, .inl (fun _ => 0))), (qtn_6, .inl (cy 0, 8, .inl (fun _ => 0))), (qtg_7, .inl (cy 0, 8, .inl (fun _ => 0))), (qta_8, .inl (cy 0, 8, .inl (fun _ => 0))), (qtr_9, .inl (cy 0, 8, .inl (fun _ => 0))), (qtm_10, .inl (cy 0, 8, .inl (fun _ => 0))), (qtt_11, .inl (cy 0, 8, .inl (fun _ => 0))), (qts_12, .inl (cy 0, 64, .inl (fun _ => 0))), (q_13, .inr (3, [.int 0, .int 0, .int 0, .int 0, .int 1, .ref qtw_17, .ref qtn_18, .ref qtg_19, .ref qta_20, .ref qtr_21, .ref qtm_22, .ref qtt_23, .ref qts_24])), (qtw_17, .inl (cy 0, 8, .inl (fun _ => 0))), (qtn_18, .inl (cy 0, 8, .inl (fun _ => 0))), (qtg_19, .inl (cy 0, 8, .inl (fun _ => 0))), (qta_20, .inl (cy 0, 8, .inl (fun _ => 0))), (qtr_21, .inl (cy 0, 8, .inl (fun _ => 0))), (qtm_22, .inl (cy 0, 8, .inl (fun _ => 0))), (qtt_23, .inl (cy 0, 8, .inl (fun _ => 0))), (qts_24, .inl (cy 0, 64, .inl (fun _ => 0))), (q_29, .inr (1, [.ref qsh_33, .ref qss_34, .ref qsa_35, .ref qse_36])), (qsh_33, .inl (cy 0, 8, .inl fH_37)), (qss_34, .inl (cy 0, 8, .inl (fun _ => 0))), (qsa_35, .inl (cy 0, 8, .inl (fun _ => 0))), (qse_36, .inl (cy 1, 320, .inr (.inl (fun _ => 0)))), (q_39, .inr (2, [.ref qab_43, .int 0, .int 0, .int 0, .int 0, .int 0, .ref qd_44])), (qab_43, .inl (cy 2, 250, .inl (fun _ => 0))), (qd_44, .inr (3, [.int 0, .int 0, .int 0, .int 0, .int 1, .ref qdw_45, .ref qdn_46, .ref qdg_47, .ref qda_48, .ref qdr_49, .ref qdm_50, .ref qdt_51, .ref qds_52])), (qdw_45, .inl (cy 0, 8, .inl (fun _ => 0))), (qdn_46, .inl (cy 0, 8, .inl (fun _ => 0))), (qdg_47, .inl (cy 0, 8, .inl (fun _ => 0))), (qda_48, .inl (cy 0, 8, .inl (fun _ => 0))), (qdr_49, .inl (cy 0, 8, .inl (fun _ => 0))), (qdm_50, .inl (cy 0, 8, .inl (fun _ => 0))), (qdt_51, .inl (cy 0, 8, .inl (fun _ => 0))), (qds_52, .inl (cy 0, 64, .inl (fun _ => 0)))] H := hP
  have hD : va_D A [(qx, .inr (4, [.ref q_1, .ref q_13, .ref q_25, .ref q_29, .null, .null, .int 0, .int 0, .int 0])), (q_1, .inr (3, [.int 0, .int 0, .int 0, .int 0, .int 1, .ref qtw_5, .ref qtn_6, .ref qtg_7, .ref qta_8, .ref qtr_9, .ref qtm_10, .ref qtt_11, .ref qts_12])), (qtw_5, .inl (cy 0, 8, .inl (fun _ => 0))), (qtn_6, .inl (cy 0, 8, .inl (fun _ => 0))), (qtg_7, .inl (cy 0, 8, .inl (fun _ => 0))), (qta_8, .inl (cy 0, 8, .inl (fun _ => 0))), (qtr_9, .inl (cy 0, 8, .inl (fun _ => 0))), (qtm_10, .inl (cy 0, 8, .inl (fun _ => 0))), (qtt_11, .inl (cy 0, 8, .inl (fun _ => 0))), (qts_12, .inl (cy 0, 64, .inl (fun _ => 0))), (q_13, .inr (3, [.int 0, .int 0, .int 0, .int 0, .int 1, .ref qtw_17, .ref qtn_18, .ref qtg_19, .ref qta_20, .ref qtr_21, .ref qtm_22, .ref qtt_23, .ref qts_24])), (qtw_17, .inl (cy 0, 8, .inl (fun _ => 0))), (qtn_18, .inl (cy 0, 8, .inl (fun _ => 0))), (qtg_19, .inl (cy 0, 8, .inl (fun _ => 0))), (qta_20, .inl (cy 0, 8, .inl (fun _ => 0))), (qtr_21, .inl (cy 0, 8, .inl (fun _ => 0))), (qtm_22, .inl (cy 0, 8, .inl (fun _ => 0))), (qtt_23, .inl (cy 0, 8, .inl (fun _ => 0))), (qts_24, .inl (cy 0, 64, .inl (fun _ => 0))), (q_29, .inr (1, [.ref qsh_33, .ref qss_34, .ref qsa_35, .ref qse_36])), (qsh_33, .inl (cy 0, 8, .inl fH_37)), (qss_34, .inl (cy 0, 8, .inl (fun _ => 0))), (qsa_35, .inl (cy 0, 8, .inl (fun _ => 0))), (qse_36, .inl (cy 1, 320, .inr (.inl (fun _ => 0)))), (q_39, .inr (2, [.ref qab_43, .int 0, .int 0, .int 0, .int 0, .int 0, .ref qd_44])), (qab_43, .inl (cy 2, 250, .inl (fun _ => 0))), (qd_44, .inr (3, [.int 0, .int 0, .int 0, .int 0, .int 1, .ref qdw_45, .ref qdn_46, .ref qdg_47, .ref qda_48, .ref qdr_49, .ref qdm_50, .ref qdt_51, .ref qds_52])), (qdw_45, .inl (cy 0, 8, .inl (fun _ => 0))), (qdn_46, .inl (cy 0, 8, .inl (fun _ => 0))), (qdg_47, .inl (cy 0, 8, .inl (fun _ => 0))), (qda_48, .inl (cy 0, 8, .inl (fun _ => 0))), (qdr_49, .inl (cy 0, 8, .inl (fun _ => 0))), (qdm_50, .inl (cy 0, 8, .inl (fun _ => 0))), (qdt_51, .inl (cy 0, 8, .inl (fun _ => 0))), (qds_52, .inl (cy 0, 64, .inl (fun _ => 0)))] := hD
  refine W.widen (k := 53) (n := 1274) (Nat.le_of_ble_eq_true rfl) (Nat.le_of_ble_eq_true rfl) ?_
  refine va_putF (D := G) (ci := 4) (v := .ref q_39) (ty := (.object "EachBookOnce$Tape")) (C := RX5) (T := TX5) (N := 9) hx hb hts iX_X5 tyX5 tyX5_ok nmX5 hown hK hP hD hS 0 rfl rfl 4 (by decide) (hts _ m_t178) (fun _ h9 => h9) rfl hin rfl (by decide +kernel) rfl rfl (Nat.le_of_ble_eq_true rfl) dX5_init_56 (fun H locs hP hD hS => ?_)
  have hP : va_P G CL [(qx, .inr (4, [.ref q_1, .ref q_13, .ref q_25, .ref q_29, .ref q_39, .null, .int 0, .int 0, .int 0])), (q_1, .inr (3, [.int 0, .int 0, .int 0, .int 0, .int 1, .ref qtw_5, .ref qtn_6, .ref qtg_7, .ref qta_8, .ref qtr_9, .ref qtm_10, .ref qtt_11, .ref qts_12])), (qtw_5, .inl (cy 0, 8, .inl (fun _ => 0))), (qtn_6, .inl (cy 0, 8, .inl (fun _ => 0))), (qtg_7, .inl (cy 0, 8, .inl (fun _ => 0))), (qta_8, .inl (cy 0, 8, .inl (fun _ => 0))), (qtr_9, .inl (cy 0, 8, .inl (fun _ => 0))), (qtm_10, .inl (cy 0, 8, .inl (fun _ => 0))), (qtt_11, .inl (cy 0, 8, .inl (fun _ => 0))), (qts_12, .inl (cy 0, 64, .inl (fun _ => 0))), (q_13, .inr (3, [.int 0, .int 0, .int 0, .int 0, .int 1, .ref qtw_17, .ref qtn_18, .ref qtg_19, .ref qta_20, .ref qtr_21, .ref qtm_22, .ref qtt_23, .ref qts_24])), (qtw_17, .inl (cy 0, 8, .inl (fun _ => 0))), (qtn_18, .inl (cy 0, 8, .inl (fun _ => 0))), (qtg_19, .inl (cy 0, 8, .inl (fun _ => 0))), (qta_20, .inl (cy 0, 8, .inl (fun _ => 0))), (qtr_21, .inl (cy 0, 8, .inl (fun _ => 0))), (qtm_22, .inl (cy 0, 8, .inl (fun _ => 0))), (qtt_23, .inl (cy 0, 8, .inl (fun _ => 0))), (qts_24, .inl (cy 0, 64, .inl (fun _ => 0))), (q_29, .inr (1, [.ref qsh_33, .ref qss_34, .ref qsa_35, .ref qse_36])), (qsh_33, .inl (cy 0, 8, .inl fH_37)), (qss_34, .inl (cy 0, 8, .inl (fun _ => 0))), (qsa_35, .inl (cy 0, 8, .inl (fun _ => 0))), (qse_36, .inl (cy 1, 320, .inr (.inl (fun _ => 0)))), (q_39, .inr (2, [.ref qab_43, .int 0, .int 0, .int 0, .int 0, .int 0, .ref qd_44])), (qab_43, .inl (cy 2, 250, .inl (fun _ => 0))), (qd_44, .inr (3, [.int 0, .int 0, .int 0, .int 0, .int 1, .ref qdw_45, .ref qdn_46, .ref qdg_47, .ref qda_48, .ref qdr_49, .ref qdm_50, .ref qdt_51, .ref qds_52])), (qdw_45, .inl (cy 0, 8, .inl (fun _ => 0))), (qdn_46, .inl (cy 0, 8, .inl (fun _ => 0))), (qdg_47, .inl (cy 0, 8, .inl (fun _ => 0))), (qda_48, .inl (cy 0, 8, .inl (fun _ => 0))), (qdr_49, .inl (cy 0, 8, .inl (fun _ => 0))), (qdm_50, .inl (cy 0, 8, .inl (fun _ => 0))), (qdt_51, .inl (cy 0, 8, .inl (fun _ => 0))), (qds_52, .inl (cy 0, 64, .inl (fun _ => 0)))] H := hP
  have hD : va_D A [(qx, .inr (4, [.ref q_1, .ref q_13, .ref q_25, .ref q_29, .ref q_39, .null, .int 0, .int 0, .int 0])), (q_1, .inr (3, [.int 0, .int 0, .int 0, .int 0, .int 1, .ref qtw_5, .ref qtn_6, .ref qtg_7, .ref qta_8, .ref qtr_9, .ref qtm_10, .ref qtt_11, .ref qts_12])), (qtw_5, .inl (cy 0, 8, .inl (fun _ => 0))), (qtn_6, .inl (cy 0, 8, .inl (fun _ => 0))), (qtg_7, .inl (cy 0, 8, .inl (fun _ => 0))), (qta_8, .inl (cy 0, 8, .inl (fun _ => 0))), (qtr_9, .inl (cy 0, 8, .inl (fun _ => 0))), (qtm_10, .inl (cy 0, 8, .inl (fun _ => 0))), (qtt_11, .inl (cy 0, 8, .inl (fun _ => 0))), (qts_12, .inl (cy 0, 64, .inl (fun _ => 0))), (q_13, .inr (3, [.int 0, .int 0, .int 0, .int 0, .int 1, .ref qtw_17, .ref qtn_18, .ref qtg_19, .ref qta_20, .ref qtr_21, .ref qtm_22, .ref qtt_23, .ref qts_24])), (qtw_17, .inl (cy 0, 8, .inl (fun _ => 0))), (qtn_18, .inl (cy 0, 8, .inl (fun _ => 0))), (qtg_19, .inl (cy 0, 8, .inl (fun _ => 0))), (qta_20, .inl (cy 0, 8, .inl (fun _ => 0))), (qtr_21, .inl (cy 0, 8, .inl (fun _ => 0))), (qtm_22, .inl (cy 0, 8, .inl (fun _ => 0))), (qtt_23, .inl (cy 0, 8, .inl (fun _ => 0))), (qts_24, .inl (cy 0, 64, .inl (fun _ => 0))), (q_29, .inr (1, [.ref qsh_33, .ref qss_34, .ref qsa_35, .ref qse_36])), (qsh_33, .inl (cy 0, 8, .inl fH_37)), (qss_34, .inl (cy 0, 8, .inl (fun _ => 0))), (qsa_35, .inl (cy 0, 8, .inl (fun _ => 0))), (qse_36, .inl (cy 1, 320, .inr (.inl (fun _ => 0)))), (q_39, .inr (2, [.ref qab_43, .int 0, .int 0, .int 0, .int 0, .int 0, .ref qd_44])), (qab_43, .inl (cy 2, 250, .inl (fun _ => 0))), (qd_44, .inr (3, [.int 0, .int 0, .int 0, .int 0, .int 1, .ref qdw_45, .ref qdn_46, .ref qdg_47, .ref qda_48, .ref qdr_49, .ref qdm_50, .ref qdt_51, .ref qds_52])), (qdw_45, .inl (cy 0, 8, .inl (fun _ => 0))), (qdn_46, .inl (cy 0, 8, .inl (fun _ => 0))), (qdg_47, .inl (cy 0, 8, .inl (fun _ => 0))), (qda_48, .inl (cy 0, 8, .inl (fun _ => 0))), (qdr_49, .inl (cy 0, 8, .inl (fun _ => 0))), (qdm_50, .inl (cy 0, 8, .inl (fun _ => 0))), (qdt_51, .inl (cy 0, 8, .inl (fun _ => 0))), (qds_52, .inl (cy 0, 64, .inl (fun _ => 0)))] := hD
  refine lv_aload_n hx hb dX5_init_59 rfl (lv_at hl 0 rfl) ?_
  refine lv_iconst (v := 5) hx hb dX5_init_60 (by decide) ?_
  refine newI hx hb hts m_t92 hN hP hD hS hA 5 (by decide) (by decide) (Nat.le_of_ble_eq_true rfl) (Nat.le_of_ble_eq_true rfl) (Nat.le_of_ble_eq_true rfl) dX5_init_61 (fun q_53 H hP hD hS => ?_)
  have hP : va_P G CL [(qx, .inr (4, [.ref q_1, .ref q_13, .ref q_25, .ref q_29, .ref q_39, .null, .int 0, .int 0, .int 0])), (q_1, .inr (3, [.int 0, .int 0, .int 0, .int 0, .int 1, .ref qtw_5, .ref qtn_6, .ref qtg_7, .ref qta_8, .ref qtr_9, .ref qtm_10, .ref qtt_11, .ref qts_12])), (qtw_5, .inl (cy 0, 8, .inl (fun _ => 0))), (qtn_6, .inl (cy 0, 8, .inl (fun _ => 0))), (qtg_7, .inl (cy 0, 8, .inl (fun _ => 0))), (qta_8, .inl (cy 0, 8, .inl (fun _ => 0))), (qtr_9, .inl (cy 0, 8, .inl (fun _ => 0))), (qtm_10, .inl (cy 0, 8, .inl (fun _ => 0))), (qtt_11, .inl (cy 0, 8, .inl (fun _ => 0))), (qts_12, .inl (cy 0, 64, .inl (fun _ => 0))), (q_13, .inr (3, [.int 0, .int 0, .int 0, .int 0, .int 1, .ref qtw_17, .ref qtn_18, .ref qtg_19, .ref qta_20, .ref qtr_21, .ref qtm_22, .ref qtt_23, .ref qts_24])), (qtw_17, .inl (cy 0, 8, .inl (fun _ => 0))), (qtn_18, .inl (cy 0, 8, .inl (fun _ => 0))), (qtg_19, .inl (cy 0, 8, .inl (fun _ => 0))), (qta_20, .inl (cy 0, 8, .inl (fun _ => 0))), (qtr_21, .inl (cy 0, 8, .inl (fun _ => 0))), (qtm_22, .inl (cy 0, 8, .inl (fun _ => 0))), (qtt_23, .inl (cy 0, 8, .inl (fun _ => 0))), (qts_24, .inl (cy 0, 64, .inl (fun _ => 0))), (q_29, .inr (1, [.ref qsh_33, .ref qss_34, .ref qsa_35, .ref qse_36])), (qsh_33, .inl (cy 0, 8, .inl fH_37)), (qss_34, .inl (cy 0, 8, .inl (fun _ => 0))), (qsa_35, .inl (cy 0, 8, .inl (fun _ => 0))), (qse_36, .inl (cy 1, 320, .inr (.inl (fun _ => 0)))), (q_39, .inr (2, [.ref qab_43, .int 0, .int 0, .int 0, .int 0, .int 0, .ref qd_44])), (qab_43, .inl (cy 2, 250, .inl (fun _ => 0))), (qd_44, .inr (3, [.int 0, .int 0, .int 0, .int 0, .int 1, .ref qdw_45, .ref qdn_46, .ref qdg_47, .ref qda_48, .ref qdr_49, .ref qdm_50, .ref qdt_51, .ref qds_52])), (qdw_45, .inl (cy 0, 8, .inl (fun _ => 0))), (qdn_46, .inl (cy 0, 8, .inl (fun _ => 0))), (qdg_47, .inl (cy 0, 8, .inl (fun _ => 0))), (qda_48, .inl (cy 0, 8, .inl (fun _ => 0))), (qdr_49, .inl (cy 0, 8, .inl (fun _ => 0))), (qdm_50, .inl (cy 0, 8, .inl (fun _ => 0))), (qdt_51, .inl (cy 0, 8, .inl (fun _ => 0))), (qds_52, .inl (cy 0, 64, .inl (fun _ => 0))), (q_53, .inl (cy 0, 5, .inl (fun _ => 0)))] H := hP
  have hD : va_D A [(qx, .inr (4, [.ref q_1, .ref q_13, .ref q_25, .ref q_29, .ref q_39, .null, .int 0, .int 0, .int 0])), (q_1, .inr (3, [.int 0, .int 0, .int 0, .int 0, .int 1, .ref qtw_5, .ref qtn_6, .ref qtg_7, .ref qta_8, .ref qtr_9, .ref qtm_10, .ref qtt_11, .ref qts_12])), (qtw_5, .inl (cy 0, 8, .inl (fun _ => 0))), (qtn_6, .inl (cy 0, 8, .inl (fun _ => 0))), (qtg_7, .inl (cy 0, 8, .inl (fun _ => 0))), (qta_8, .inl (cy 0, 8, .inl (fun _ => 0))), (qtr_9, .inl (cy 0, 8, .inl (fun _ => 0))), (qtm_10, .inl (cy 0, 8, .inl (fun _ => 0))), (qtt_11, .inl (cy 0, 8, .inl (fun _ => 0))), (qts_12, .inl (cy 0, 64, .inl (fun _ => 0))), (q_13, .inr (3, [.int 0, .int 0, .int 0, .int 0, .int 1, .ref qtw_17, .ref qtn_18, .ref qtg_19, .ref qta_20, .ref qtr_21, .ref qtm_22, .ref qtt_23, .ref qts_24])), (qtw_17, .inl (cy 0, 8, .inl (fun _ => 0))), (qtn_18, .inl (cy 0, 8, .inl (fun _ => 0))), (qtg_19, .inl (cy 0, 8, .inl (fun _ => 0))), (qta_20, .inl (cy 0, 8, .inl (fun _ => 0))), (qtr_21, .inl (cy 0, 8, .inl (fun _ => 0))), (qtm_22, .inl (cy 0, 8, .inl (fun _ => 0))), (qtt_23, .inl (cy 0, 8, .inl (fun _ => 0))), (qts_24, .inl (cy 0, 64, .inl (fun _ => 0))), (q_29, .inr (1, [.ref qsh_33, .ref qss_34, .ref qsa_35, .ref qse_36])), (qsh_33, .inl (cy 0, 8, .inl fH_37)), (qss_34, .inl (cy 0, 8, .inl (fun _ => 0))), (qsa_35, .inl (cy 0, 8, .inl (fun _ => 0))), (qse_36, .inl (cy 1, 320, .inr (.inl (fun _ => 0)))), (q_39, .inr (2, [.ref qab_43, .int 0, .int 0, .int 0, .int 0, .int 0, .ref qd_44])), (qab_43, .inl (cy 2, 250, .inl (fun _ => 0))), (qd_44, .inr (3, [.int 0, .int 0, .int 0, .int 0, .int 1, .ref qdw_45, .ref qdn_46, .ref qdg_47, .ref qda_48, .ref qdr_49, .ref qdm_50, .ref qdt_51, .ref qds_52])), (qdw_45, .inl (cy 0, 8, .inl (fun _ => 0))), (qdn_46, .inl (cy 0, 8, .inl (fun _ => 0))), (qdg_47, .inl (cy 0, 8, .inl (fun _ => 0))), (qda_48, .inl (cy 0, 8, .inl (fun _ => 0))), (qdr_49, .inl (cy 0, 8, .inl (fun _ => 0))), (qdm_50, .inl (cy 0, 8, .inl (fun _ => 0))), (qdt_51, .inl (cy 0, 8, .inl (fun _ => 0))), (qds_52, .inl (cy 0, 64, .inl (fun _ => 0))), (q_53, .inl (cy 0, 5, .inl (fun _ => 0)))] := hD
  refine W.widen (k := 54) (n := 1279) (Nat.le_of_ble_eq_true rfl) (Nat.le_of_ble_eq_true rfl) ?_
  refine va_putF (D := G) (ci := 4) (v := .ref q_53) (ty := (.array .int)) (C := RX5) (T := TX5) (N := 9) hx hb hts iX_X5 tyX5 tyX5_ok nmX5 hown hK hP hD hS 0 rfl rfl 5 (by decide) (hts _ m_t179) (fun _ h9 => h9) rfl hin rfl (by decide +kernel) rfl rfl (Nat.le_of_ble_eq_true rfl) dX5_init_63 (fun H locs hP hD hS => ?_)
  have hP : va_P G CL [(qx, .inr (4, [.ref q_1, .ref q_13, .ref q_25, .ref q_29, .ref q_39, .ref q_53, .int 0, .int 0, .int 0])), (q_1, .inr (3, [.int 0, .int 0, .int 0, .int 0, .int 1, .ref qtw_5, .ref qtn_6, .ref qtg_7, .ref qta_8, .ref qtr_9, .ref qtm_10, .ref qtt_11, .ref qts_12])), (qtw_5, .inl (cy 0, 8, .inl (fun _ => 0))), (qtn_6, .inl (cy 0, 8, .inl (fun _ => 0))), (qtg_7, .inl (cy 0, 8, .inl (fun _ => 0))), (qta_8, .inl (cy 0, 8, .inl (fun _ => 0))), (qtr_9, .inl (cy 0, 8, .inl (fun _ => 0))), (qtm_10, .inl (cy 0, 8, .inl (fun _ => 0))), (qtt_11, .inl (cy 0, 8, .inl (fun _ => 0))), (qts_12, .inl (cy 0, 64, .inl (fun _ => 0))), (q_13, .inr (3, [.int 0, .int 0, .int 0, .int 0, .int 1, .ref qtw_17, .ref qtn_18, .ref qtg_19, .ref qta_20, .ref qtr_21, .ref qtm_22, .ref qtt_23, .ref qts_24])), (qtw_17, .inl (cy 0, 8, .inl (fun _ => 0))), (qtn_18, .inl (cy 0, 8, .inl (fun _ => 0))), (qtg_19, .inl (cy 0, 8, .inl (fun _ => 0))), (qta_20, .inl (cy 0, 8, .inl (fun _ => 0))), (qtr_21, .inl (cy 0, 8, .inl (fun _ => 0))), (qtm_22, .inl (cy 0, 8, .inl (fun _ => 0))), (qtt_23, .inl (cy 0, 8, .inl (fun _ => 0))), (qts_24, .inl (cy 0, 64, .inl (fun _ => 0))), (q_29, .inr (1, [.ref qsh_33, .ref qss_34, .ref qsa_35, .ref qse_36])), (qsh_33, .inl (cy 0, 8, .inl fH_37)), (qss_34, .inl (cy 0, 8, .inl (fun _ => 0))), (qsa_35, .inl (cy 0, 8, .inl (fun _ => 0))), (qse_36, .inl (cy 1, 320, .inr (.inl (fun _ => 0)))), (q_39, .inr (2, [.ref qab_43, .int 0, .int 0, .int 0, .int 0, .int 0, .ref qd_44])), (qab_43, .inl (cy 2, 250, .inl (fun _ => 0))), (qd_44, .inr (3, [.int 0, .int 0, .int 0, .int 0, .int 1, .ref qdw_45, .ref qdn_46, .ref qdg_47, .ref qda_48, .ref qdr_49, .ref qdm_50, .ref qdt_51, .ref qds_52])), (qdw_45, .inl (cy 0, 8, .inl (fun _ => 0))), (qdn_46, .inl (cy 0, 8, .inl (fun _ => 0))), (qdg_47, .inl (cy 0, 8, .inl (fun _ => 0))), (qda_48, .inl (cy 0, 8, .inl (fun _ => 0))), (qdr_49, .inl (cy 0, 8, .inl (fun _ => 0))), (qdm_50, .inl (cy 0, 8, .inl (fun _ => 0))), (qdt_51, .inl (cy 0, 8, .inl (fun _ => 0))), (qds_52, .inl (cy 0, 64, .inl (fun _ => 0))), (q_53, .inl (cy 0, 5, .inl (fun _ => 0)))] H := hP
  have hD : va_D A [(qx, .inr (4, [.ref q_1, .ref q_13, .ref q_25, .ref q_29, .ref q_39, .ref q_53, .int 0, .int 0, .int 0])), (q_1, .inr (3, [.int 0, .int 0, .int 0, .int 0, .int 1, .ref qtw_5, .ref qtn_6, .ref qtg_7, .ref qta_8, .ref qtr_9, .ref qtm_10, .ref qtt_11, .ref qts_12])), (qtw_5, .inl (cy 0, 8, .inl (fun _ => 0))), (qtn_6, .inl (cy 0, 8, .inl (fun _ => 0))), (qtg_7, .inl (cy 0, 8, .inl (fun _ => 0))), (qta_8, .inl (cy 0, 8, .inl (fun _ => 0))), (qtr_9, .inl (cy 0, 8, .inl (fun _ => 0))), (qtm_10, .inl (cy 0, 8, .inl (fun _ => 0))), (qtt_11, .inl (cy 0, 8, .inl (fun _ => 0))), (qts_12, .inl (cy 0, 64, .inl (fun _ => 0))), (q_13, .inr (3, [.int 0, .int 0, .int 0, .int 0, .int 1, .ref qtw_17, .ref qtn_18, .ref qtg_19, .ref qta_20, .ref qtr_21, .ref qtm_22, .ref qtt_23, .ref qts_24])), (qtw_17, .inl (cy 0, 8, .inl (fun _ => 0))), (qtn_18, .inl (cy 0, 8, .inl (fun _ => 0))), (qtg_19, .inl (cy 0, 8, .inl (fun _ => 0))), (qta_20, .inl (cy 0, 8, .inl (fun _ => 0))), (qtr_21, .inl (cy 0, 8, .inl (fun _ => 0))), (qtm_22, .inl (cy 0, 8, .inl (fun _ => 0))), (qtt_23, .inl (cy 0, 8, .inl (fun _ => 0))), (qts_24, .inl (cy 0, 64, .inl (fun _ => 0))), (q_29, .inr (1, [.ref qsh_33, .ref qss_34, .ref qsa_35, .ref qse_36])), (qsh_33, .inl (cy 0, 8, .inl fH_37)), (qss_34, .inl (cy 0, 8, .inl (fun _ => 0))), (qsa_35, .inl (cy 0, 8, .inl (fun _ => 0))), (qse_36, .inl (cy 1, 320, .inr (.inl (fun _ => 0)))), (q_39, .inr (2, [.ref qab_43, .int 0, .int 0, .int 0, .int 0, .int 0, .ref qd_44])), (qab_43, .inl (cy 2, 250, .inl (fun _ => 0))), (qd_44, .inr (3, [.int 0, .int 0, .int 0, .int 0, .int 1, .ref qdw_45, .ref qdn_46, .ref qdg_47, .ref qda_48, .ref qdr_49, .ref qdm_50, .ref qdt_51, .ref qds_52])), (qdw_45, .inl (cy 0, 8, .inl (fun _ => 0))), (qdn_46, .inl (cy 0, 8, .inl (fun _ => 0))), (qdg_47, .inl (cy 0, 8, .inl (fun _ => 0))), (qda_48, .inl (cy 0, 8, .inl (fun _ => 0))), (qdr_49, .inl (cy 0, 8, .inl (fun _ => 0))), (qdm_50, .inl (cy 0, 8, .inl (fun _ => 0))), (qdt_51, .inl (cy 0, 8, .inl (fun _ => 0))), (qds_52, .inl (cy 0, 64, .inl (fun _ => 0))), (q_53, .inl (cy 0, 5, .inl (fun _ => 0)))] := hD
  exact endV (u := [(qx, .inr (4, [.ref q_1, .ref q_13, .ref q_25, .ref q_29, .ref q_39, .ref q_53, .int 0, .int 0, .int 0])), (q_53, .inl (cy 0, 5, .inl (fun _ => 0))), (q_1, .inr (3, [.int 0, .int 0, .int 0, .int 0, .int 1, .ref qtw_5, .ref qtn_6, .ref qtg_7, .ref qta_8, .ref qtr_9, .ref qtm_10, .ref qtt_11, .ref qts_12])), (qtw_5, .inl (cy 0, 8, .inl (fun _ => 0))), (qtn_6, .inl (cy 0, 8, .inl (fun _ => 0))), (qtg_7, .inl (cy 0, 8, .inl (fun _ => 0))), (qta_8, .inl (cy 0, 8, .inl (fun _ => 0))), (qtr_9, .inl (cy 0, 8, .inl (fun _ => 0))), (qtm_10, .inl (cy 0, 8, .inl (fun _ => 0))), (qtt_11, .inl (cy 0, 8, .inl (fun _ => 0))), (qts_12, .inl (cy 0, 64, .inl (fun _ => 0))), (q_13, .inr (3, [.int 0, .int 0, .int 0, .int 0, .int 1, .ref qtw_17, .ref qtn_18, .ref qtg_19, .ref qta_20, .ref qtr_21, .ref qtm_22, .ref qtt_23, .ref qts_24])), (qtw_17, .inl (cy 0, 8, .inl (fun _ => 0))), (qtn_18, .inl (cy 0, 8, .inl (fun _ => 0))), (qtg_19, .inl (cy 0, 8, .inl (fun _ => 0))), (qta_20, .inl (cy 0, 8, .inl (fun _ => 0))), (qtr_21, .inl (cy 0, 8, .inl (fun _ => 0))), (qtm_22, .inl (cy 0, 8, .inl (fun _ => 0))), (qtt_23, .inl (cy 0, 8, .inl (fun _ => 0))), (qts_24, .inl (cy 0, 64, .inl (fun _ => 0))), (q_29, .inr (1, [.ref qsh_33, .ref qss_34, .ref qsa_35, .ref qse_36])), (qsh_33, .inl (cy 0, 8, .inl fH_37)), (qss_34, .inl (cy 0, 8, .inl (fun _ => 0))), (qsa_35, .inl (cy 0, 8, .inl (fun _ => 0))), (qse_36, .inl (cy 1, 320, .inr (.inl (fun _ => 0)))), (q_39, .inr (2, [.ref qab_43, .int 0, .int 0, .int 0, .int 0, .int 0, .ref qd_44])), (qab_43, .inl (cy 2, 250, .inl (fun _ => 0))), (qd_44, .inr (3, [.int 0, .int 0, .int 0, .int 0, .int 1, .ref qdw_45, .ref qdn_46, .ref qdg_47, .ref qda_48, .ref qdr_49, .ref qdm_50, .ref qdt_51, .ref qds_52])), (qdw_45, .inl (cy 0, 8, .inl (fun _ => 0))), (qdn_46, .inl (cy 0, 8, .inl (fun _ => 0))), (qdg_47, .inl (cy 0, 8, .inl (fun _ => 0))), (qda_48, .inl (cy 0, 8, .inl (fun _ => 0))), (qdr_49, .inl (cy 0, 8, .inl (fun _ => 0))), (qdm_50, .inl (cy 0, 8, .inl (fun _ => 0))), (qdt_51, .inl (cy 0, 8, .inl (fun _ => 0))), (qds_52, .inl (cy 0, 64, .inl (fun _ => 0)))]) hx hb hr hlocks (hP.sub [0, 35, 1, 2, 3, 4, 5, 6, 7, 8, 9, 10, 11, 12, 13, 14, 15, 16, 17, 18, 19, 20, 21, 22, 23, 24, 25, 26, 27, 28, 29, 30, 31, 32, 33, 34] rfl) (hD.sub [0, 35, 1, 2, 3, 4, 5, 6, 7, 8, 9, 10, 11, 12, 13, 14, 15, 16, 17, 18, 19, 20, 21, 22, 23, 24, 25, 26, 27, 28, 29, 30, 31, 32, 33, 34] (by decide) rfl) hS ⟨q_1, q_13, q_25, q_29, q_39, q_53, qtw_5, qtn_6, qtg_7, qta_8, qtr_9, qtm_10, qtt_11, qts_12, qtw_17, qtn_18, qtg_19, qta_20, qtr_21, qtm_22, qtt_23, qts_24, qsh_33, qss_34, qsa_35, qse_36, fH_37, qab_43, qd_44, qdw_45, qdn_46, qdg_47, qda_48, qdr_49, qdm_50, qdt_51, qds_52, rfl, h_38⟩ dX5_init_66
set_option maxHeartbeats 4000000 in
set_option maxRecDepth 100000 in
theorem c_X6_init (l : Launch) (G : va_G) (cy : Nat → ClassId) (sz : Nat) (qm : Nat)   : MW l yX6_init cX6_init 1 none 1 49 853 G cy [(qm, .inr (5, [.null, .null, .null, .null, .null, .null, .null, .null, .int 0, .null, .int 0, .null, .int 0, .null, .null, .int 0, .int 0, .int 0, .null, .null, .int 0, .int 0, .int 0, .long 0, .int 0, .null, .int 0, .int 0, .int 0, .null, .null, .null, .null, .null, .int 0]))] sz [.ref qm] (Wv G (fun u => ∃ (qms : Nat) (qmo : Nat) (qmz : Nat) (qmv : Nat) (qmk : Nat) (qmb : Nat) (qmt : Nat) (qmr : Nat) (qmR : Nat) (qmB : Nat) (qmO : Nat) (qmK : Nat) (qm_three : Nat) (qm_unread : Nat) (qm_tryRow : Nat) (qm_bestRow : Nat) (qm_steps : Nat) (rR : Nat → Nat) (rB : Nat → Nat) (rO : Nat → Nat) (rK : Nat → Nat), u = [(qm, .inr (5, [.ref qms, .ref qmo, .ref qmz, .ref qmR, .ref qmv, .ref qmk, .ref qmb, .ref qmt, .int 0, .ref qmr, .int 0, .ref qmB, .int 0, .ref qmO, .ref qmK, .int 0, .int 0, .int 1, .null, .null, .int 0, .int 0, .int 0, .long 0, .int 0, .ref qm_three, .int 0, .int 0, .int 0, .null, .ref qm_unread, .ref qm_tryRow, .ref qm_bestRow, .ref qm_steps, .int 0])), (qms, .inl (cy 0, 8, .inl (fun _ => 0))), (qmo, .inl (cy 0, 8, .inl (fun _ => 0))), (qmz, .inl (cy 0, 8, .inl (fun _ => 0))), (qmk, .inl (cy 0, 8, .inl (fun _ => 0))), (qmb, .inl (cy 0, 8, .inl (fun _ => 0))), (qmt, .inl (cy 0, 250, .inl (fun _ => 0))), (qmr, .inl (cy 0, 8, .inl (fun _ => 0))), (qmR, .inl (cy 4, 8, .inr (.inr (.inr (.inr (fun i => if i < 8 then some (rR i) else none)))))), (rR 0, .inl (cy 1, 40, .inr (.inl (fun _ => 0)))), (rR 1, .inl (cy 1, 40, .inr (.inl (fun _ => 0)))), (rR 2, .inl (cy 1, 40, .inr (.inl (fun _ => 0)))), (rR 3, .inl (cy 1, 40, .inr (.inl (fun _ => 0)))), (rR 4, .inl (cy 1, 40, .inr (.inl (fun _ => 0)))), (rR 5, .inl (cy 1, 40, .inr (.inl (fun _ => 0)))), (rR 6, .inl (cy 1, 40, .inr (.inl (fun _ => 0)))), (rR 7, .inl (cy 1, 40, .inr (.inl (fun _ => 0)))), (qmB, .inl (cy 3, 8, .inr (.inr (.inr (.inr (fun i => if i < 8 then some (rB i) else none)))))), (rB 0, .inl (cy 0, 4, .inl (fun _ => 0))), (rB 1, .inl (cy 0, 4, .inl (fun _ => 0))), (rB 2, .inl (cy 0, 4, .inl (fun _ => 0))), (rB 3, .inl (cy 0, 4, .inl (fun _ => 0))), (rB 4, .inl (cy 0, 4, .inl (fun _ => 0))), (rB 5, .inl (cy 0, 4, .inl (fun _ => 0))), (rB 6, .inl (cy 0, 4, .inl (fun _ => 0))), (rB 7, .inl (cy 0, 4, .inl (fun _ => 0))), (qmO, .inl (cy 3, 8, .inr (.inr (.inr (.inr (fun i => if i < 8 then some (rO i) else none)))))), (rO 0, .inl (cy 0, 5, .inl (fun _ => 0))), (rO 1, .inl (cy 0, 5, .inl (fun _ => 0))), (rO 2, .inl (cy 0, 5, .inl (fun _ => 0))), (rO 3, .inl (cy 0, 5, .inl (fun _ => 0))), (rO 4, .inl (cy 0, 5, .inl (fun _ => 0))), (rO 5, .inl (cy 0, 5, .inl (fun _ => 0))), (rO 6, .inl (cy 0, 5, .inl (fun _ => 0))), (rO 7, .inl (cy 0, 5, .inl (fun _ => 0))), (qmK, .inl (cy 3, 8, .inr (.inr (.inr (.inr (fun i => if i < 8 then some (rK i) else none)))))), (rK 0, .inl (cy 0, 8, .inl (fun _ => 0))), (rK 1, .inl (cy 0, 8, .inl (fun _ => 0))), (rK 2, .inl (cy 0, 8, .inl (fun _ => 0))), (rK 3, .inl (cy 0, 8, .inl (fun _ => 0))), (rK 4, .inl (cy 0, 8, .inl (fun _ => 0))), (rK 5, .inl (cy 0, 8, .inl (fun _ => 0))), (rK 6, .inl (cy 0, 8, .inl (fun _ => 0))), (rK 7, .inl (cy 0, 8, .inl (fun _ => 0)))])) := by
  refine enW RX6 (by decide) rfl (Nat.le_of_ble_eq_true rfl) (fun p e s m below meth c ls A hx hb hml hown hts hr hlocks hP hN hl hin hD hA hS => ?_)
  have hin : meth.name = _ := hin
  have hK := hN.1
  have hl : lv_has ls 1 [(0, .ref qm)] := hl
  refine lv_aload_n hx hb dX6_init_0 rfl (lv_at hl 0 rfl) ?_
  refine W.objInit hx hb hown (hts _ m_t843) (hts _ m_t21) (hts _ m_t22) rfl (by rw [hml]; exact hl.1) rfl dX6_init_1 (Nat.le_of_ble_eq_true rfl) (Nat.le_of_ble_eq_true rfl) ?_
  refine W.eq (g2 := F0 m 4 ls []) rfl ?_
  refine lv_aload_n hx hb dX6_init_4 rfl (lv_at hl 0 rfl) ?_
  refine lv_bipush (v := 8) hx hb dX6_init_5 (by decide) ?_
  refine newI hx hb hts m_t92 hN hP hD hS hA 8 (by decide) (by decide) (Nat.le_of_ble_eq_true rfl) (Nat.le_of_ble_eq_true rfl) (Nat.le_of_ble_eq_true rfl) dX6_init_7 (fun q_1 H hP hD hS => ?_)
  have hP : va_P G CL [(qm, .inr (5, [.null, .null, .null, .null, .null, .null, .null, .null, .int 0, .null, .int 0, .null, .int 0, .null, .null, .int 0, .int 0, .int 0, .null, .null, .int 0, .int 0, .int 0, .long 0, .int 0, .null, .int 0, .int 0, .int 0, .null, .null, .null, .null, .null, .int 0])), (q_1, .inl (cy 0, 8, .inl (fun _ => 0)))] H := hP
  have hD : va_D A [(qm, .inr (5, [.null, .null, .null, .null, .null, .null, .null, .null, .int 0, .null, .int 0, .null, .int 0, .null, .null, .int 0, .int 0, .int 0, .null, .null, .int 0, .int 0, .int 0, .long 0, .int 0, .null, .int 0, .int 0, .int 0, .null, .null, .null, .null, .null, .int 0])), (q_1, .inl (cy 0, 8, .inl (fun _ => 0)))] := hD
  refine W.widen (k := 1) (n := 8) (Nat.le_of_ble_eq_true rfl) (Nat.le_of_ble_eq_true rfl) ?_
  refine va_putF (D := G) (ci := 5) (v := .ref q_1) (ty := (.array .int)) (C := RX6) (T := TX6) (N := 35) hx hb hts iX_X6 tyX6 tyX6_ok nmX6 hown hK hP hD hS 0 rfl rfl 0 (by decide) (hts _ m_t850) (fun _ h9 => h9) rfl hin rfl (by decide +kernel) rfl rfl (Nat.le_of_ble_eq_true rfl) dX6_init_9 (fun H locs hP hD hS => ?_)
  have hP : va_P G CL [(qm, .inr (5, [.ref q_1, .null, .null, .null, .null, .null, .null, .null, .int 0, .null, .int 0, .null, .int 0, .null, .null, .int 0, .int 0, .int 0, .null, .null, .int 0, .int 0, .int 0, .long 0, .int 0, .null, .int 0, .int 0, .int 0, .null, .null, .null, .null, .null, .int 0])), (q_1, .inl (cy 0, 8, .inl (fun _ => 0)))] H := hP
  have hD : va_D A [(qm, .inr (5, [.ref q_1, .null, .null, .null, .null, .null, .null, .null, .int 0, .null, .int 0, .null, .int 0, .null, .null, .int 0, .int 0, .int 0, .null, .null, .int 0, .int 0, .int 0, .long 0, .int 0, .null, .int 0, .int 0, .int 0, .null, .null, .null, .null, .null, .int 0])), (q_1, .inl (cy 0, 8, .inl (fun _ => 0)))] := hD
  refine lv_aload_n hx hb dX6_init_12 rfl (lv_at hl 0 rfl) ?_
  refine lv_bipush (v := 8) hx hb dX6_init_13 (by decide) ?_
  refine newI hx hb hts m_t92 hN hP hD hS hA 8 (by decide) (by decide) (Nat.le_of_ble_eq_true rfl) (Nat.le_of_ble_eq_true rfl) (Nat.le_of_ble_eq_true rfl) dX6_init_15 (fun q_2 H hP hD hS => ?_)
  have hP : va_P G CL [(qm, .inr (5, [.ref q_1, .null, .null, .null, .null, .null, .null, .null, .int 0, .null, .int 0, .null, .int 0, .null, .null, .int 0, .int 0, .int 0, .null, .null, .int 0, .int 0, .int 0, .long 0, .int 0, .null, .int 0, .int 0, .int 0, .null, .null, .null, .null, .null, .int 0])), (q_1, .inl (cy 0, 8, .inl (fun _ => 0))), (q_2, .inl (cy 0, 8, .inl (fun _ => 0)))] H := hP
  have hD : va_D A [(qm, .inr (5, [.ref q_1, .null, .null, .null, .null, .null, .null, .null, .int 0, .null, .int 0, .null, .int 0, .null, .null, .int 0, .int 0, .int 0, .null, .null, .int 0, .int 0, .int 0, .long 0, .int 0, .null, .int 0, .int 0, .int 0, .null, .null, .null, .null, .null, .int 0])), (q_1, .inl (cy 0, 8, .inl (fun _ => 0))), (q_2, .inl (cy 0, 8, .inl (fun _ => 0)))] := hD
  refine W.widen (k := 2) (n := 16) (Nat.le_of_ble_eq_true rfl) (Nat.le_of_ble_eq_true rfl) ?_
  refine va_putF (D := G) (ci := 5) (v := .ref q_2) (ty := (.array .int)) (C := RX6) (T := TX6) (N := 35) hx hb hts iX_X6 tyX6 tyX6_ok nmX6 hown hK hP hD hS 0 rfl rfl 1 (by decide) (hts _ m_t851) (fun _ h9 => h9) rfl hin rfl (by decide +kernel) rfl rfl (Nat.le_of_ble_eq_true rfl) dX6_init_17 (fun H locs hP hD hS => ?_)
  have hP : va_P G CL [(qm, .inr (5, [.ref q_1, .ref q_2, .null, .null, .null, .null, .null, .null, .int 0, .null, .int 0, .null, .int 0, .null, .null, .int 0, .int 0, .int 0, .null, .null, .int 0, .int 0, .int 0, .long 0, .int 0, .null, .int 0, .int 0, .int 0, .null, .null, .null, .null, .null, .int 0])), (q_1, .inl (cy 0, 8, .inl (fun _ => 0))), (q_2, .inl (cy 0, 8, .inl (fun _ => 0)))] H := hP
  have hD : va_D A [(qm, .inr (5, [.ref q_1, .ref q_2, .null, .null, .null, .null, .null, .null, .int 0, .null, .int 0, .null, .int 0, .null, .null, .int 0, .int 0, .int 0, .null, .null, .int 0, .int 0, .int 0, .long 0, .int 0, .null, .int 0, .int 0, .int 0, .null, .null, .null, .null, .null, .int 0])), (q_1, .inl (cy 0, 8, .inl (fun _ => 0))), (q_2, .inl (cy 0, 8, .inl (fun _ => 0)))] := hD
  refine lv_aload_n hx hb dX6_init_20 rfl (lv_at hl 0 rfl) ?_
  refine lv_bipush (v := 8) hx hb dX6_init_21 (by decide) ?_
  refine newI hx hb hts m_t92 hN hP hD hS hA 8 (by decide) (by decide) (Nat.le_of_ble_eq_true rfl) (Nat.le_of_ble_eq_true rfl) (Nat.le_of_ble_eq_true rfl) dX6_init_23 (fun q_3 H hP hD hS => ?_)
  have hP : va_P G CL [(qm, .inr (5, [.ref q_1, .ref q_2, .null, .null, .null, .null, .null, .null, .int 0, .null, .int 0, .null, .int 0, .null, .null, .int 0, .int 0, .int 0, .null, .null, .int 0, .int 0, .int 0, .long 0, .int 0, .null, .int 0, .int 0, .int 0, .null, .null, .null, .null, .null, .int 0])), (q_1, .inl (cy 0, 8, .inl (fun _ => 0))), (q_2, .inl (cy 0, 8, .inl (fun _ => 0))), (q_3, .inl (cy 0, 8, .inl (fun _ => 0)))] H := hP
  have hD : va_D A [(qm, .inr (5, [.ref q_1, .ref q_2, .null, .null, .null, .null, .null, .null, .int 0, .null, .int 0, .null, .int 0, .null, .null, .int 0, .int 0, .int 0, .null, .null, .int 0, .int 0, .int 0, .long 0, .int 0, .null, .int 0, .int 0, .int 0, .null, .null, .null, .null, .null, .int 0])), (q_1, .inl (cy 0, 8, .inl (fun _ => 0))), (q_2, .inl (cy 0, 8, .inl (fun _ => 0))), (q_3, .inl (cy 0, 8, .inl (fun _ => 0)))] := hD
  refine W.widen (k := 3) (n := 24) (Nat.le_of_ble_eq_true rfl) (Nat.le_of_ble_eq_true rfl) ?_
  refine va_putF (D := G) (ci := 5) (v := .ref q_3) (ty := (.array .int)) (C := RX6) (T := TX6) (N := 35) hx hb hts iX_X6 tyX6 tyX6_ok nmX6 hown hK hP hD hS 0 rfl rfl 2 (by decide) (hts _ m_t852) (fun _ h9 => h9) rfl hin rfl (by decide +kernel) rfl rfl (Nat.le_of_ble_eq_true rfl) dX6_init_25 (fun H locs hP hD hS => ?_)
  have hP : va_P G CL [(qm, .inr (5, [.ref q_1, .ref q_2, .ref q_3, .null, .null, .null, .null, .null, .int 0, .null, .int 0, .null, .int 0, .null, .null, .int 0, .int 0, .int 0, .null, .null, .int 0, .int 0, .int 0, .long 0, .int 0, .null, .int 0, .int 0, .int 0, .null, .null, .null, .null, .null, .int 0])), (q_1, .inl (cy 0, 8, .inl (fun _ => 0))), (q_2, .inl (cy 0, 8, .inl (fun _ => 0))), (q_3, .inl (cy 0, 8, .inl (fun _ => 0)))] H := hP
  have hD : va_D A [(qm, .inr (5, [.ref q_1, .ref q_2, .ref q_3, .null, .null, .null, .null, .null, .int 0, .null, .int 0, .null, .int 0, .null, .null, .int 0, .int 0, .int 0, .null, .null, .int 0, .int 0, .int 0, .long 0, .int 0, .null, .int 0, .int 0, .int 0, .null, .null, .null, .null, .null, .int 0])), (q_1, .inl (cy 0, 8, .inl (fun _ => 0))), (q_2, .inl (cy 0, 8, .inl (fun _ => 0))), (q_3, .inl (cy 0, 8, .inl (fun _ => 0)))] := hD
  refine lv_aload_n hx hb dX6_init_28 rfl (lv_at hl 0 rfl) ?_
  refine lv_bipush (v := 8) hx hb dX6_init_29 (by decide) ?_
  refine lv_bipush (v := 40) hx hb dX6_init_31 (by decide) ?_
  refine newJJ hx hb hts hown m_t844 m_t139 hN hP hD hS hA 40 (by decide) (by decide) (by decide) (Nat.le_of_ble_eq_true rfl) (Nat.le_of_ble_eq_true rfl) (Nat.le_of_ble_eq_true rfl) (Nat.le_of_ble_eq_true rfl) dX6_init_33 (fun q_4 r_5 H hP hD hS => ?_)
  have hP : va_P G CL [(qm, .inr (5, [.ref q_1, .ref q_2, .ref q_3, .null, .null, .null, .null, .null, .int 0, .null, .int 0, .null, .int 0, .null, .null, .int 0, .int 0, .int 0, .null, .null, .int 0, .int 0, .int 0, .long 0, .int 0, .null, .int 0, .int 0, .int 0, .null, .null, .null, .null, .null, .int 0])), (q_1, .inl (cy 0, 8, .inl (fun _ => 0))), (q_2, .inl (cy 0, 8, .inl (fun _ => 0))), (q_3, .inl (cy 0, 8, .inl (fun _ => 0))), (q_4, .inl (cy 4, 8, .inr (.inr (.inr (.inr (fun i => if i < 8 then some (r_5 i) else none)))))), (r_5 0, .inl (cy 1, 40, .inr (.inl (fun _ => 0)))), (r_5 1, .inl (cy 1, 40, .inr (.inl (fun _ => 0)))), (r_5 2, .inl (cy 1, 40, .inr (.inl (fun _ => 0)))), (r_5 3, .inl (cy 1, 40, .inr (.inl (fun _ => 0)))), (r_5 4, .inl (cy 1, 40, .inr (.inl (fun _ => 0)))), (r_5 5, .inl (cy 1, 40, .inr (.inl (fun _ => 0)))), (r_5 6, .inl (cy 1, 40, .inr (.inl (fun _ => 0)))), (r_5 7, .inl (cy 1, 40, .inr (.inl (fun _ => 0))))] H := hP
  have hD : va_D A [(qm, .inr (5, [.ref q_1, .ref q_2, .ref q_3, .null, .null, .null, .null, .null, .int 0, .null, .int 0, .null, .int 0, .null, .null, .int 0, .int 0, .int 0, .null, .null, .int 0, .int 0, .int 0, .long 0, .int 0, .null, .int 0, .int 0, .int 0, .null, .null, .null, .null, .null, .int 0])), (q_1, .inl (cy 0, 8, .inl (fun _ => 0))), (q_2, .inl (cy 0, 8, .inl (fun _ => 0))), (q_3, .inl (cy 0, 8, .inl (fun _ => 0))), (q_4, .inl (cy 4, 8, .inr (.inr (.inr (.inr (fun i => if i < 8 then some (r_5 i) else none)))))), (r_5 0, .inl (cy 1, 40, .inr (.inl (fun _ => 0)))), (r_5 1, .inl (cy 1, 40, .inr (.inl (fun _ => 0)))), (r_5 2, .inl (cy 1, 40, .inr (.inl (fun _ => 0)))), (r_5 3, .inl (cy 1, 40, .inr (.inl (fun _ => 0)))), (r_5 4, .inl (cy 1, 40, .inr (.inl (fun _ => 0)))), (r_5 5, .inl (cy 1, 40, .inr (.inl (fun _ => 0)))), (r_5 6, .inl (cy 1, 40, .inr (.inl (fun _ => 0)))), (r_5 7, .inl (cy 1, 40, .inr (.inl (fun _ => 0))))] := hD
  refine W.widen (k := 12) (n := 352) (Nat.le_of_ble_eq_true rfl) (Nat.le_of_ble_eq_true rfl) ?_
  refine va_putF (D := G) (ci := 5) (v := .ref q_4) (ty := (.array (.array .long))) (C := RX6) (T := TX6) (N := 35) hx hb hts iX_X6 tyX6 tyX6_ok nmX6 hown hK hP hD hS 0 rfl rfl 3 (by decide) (hts _ m_t853) (fun _ h9 => h9) rfl hin rfl (by decide +kernel) rfl rfl (Nat.le_of_ble_eq_true rfl) dX6_init_37 (fun H locs hP hD hS => ?_)
  have hP : va_P G CL [(qm, .inr (5, [.ref q_1, .ref q_2, .ref q_3, .ref q_4, .null, .null, .null, .null, .int 0, .null, .int 0, .null, .int 0, .null, .null, .int 0, .int 0, .int 0, .null, .null, .int 0, .int 0, .int 0, .long 0, .int 0, .null, .int 0, .int 0, .int 0, .null, .null, .null, .null, .null, .int 0])), (q_1, .inl (cy 0, 8, .inl (fun _ => 0))), (q_2, .inl (cy 0, 8, .inl (fun _ => 0))), (q_3, .inl (cy 0, 8, .inl (fun _ => 0))), (q_4, .inl (cy 4, 8, .inr (.inr (.inr (.inr (fun i => if i < 8 then some (r_5 i) else none)))))), (r_5 0, .inl (cy 1, 40, .inr (.inl (fun _ => 0)))), (r_5 1, .inl (cy 1, 40, .inr (.inl (fun _ => 0)))), (r_5 2, .inl (cy 1, 40, .inr (.inl (fun _ => 0)))), (r_5 3, .inl (cy 1, 40, .inr (.inl (fun _ => 0)))), (r_5 4, .inl (cy 1, 40, .inr (.inl (fun _ => 0)))), (r_5 5, .inl (cy 1, 40, .inr (.inl (fun _ => 0)))), (r_5 6, .inl (cy 1, 40, .inr (.inl (fun _ => 0)))), (r_5 7, .inl (cy 1, 40, .inr (.inl (fun _ => 0))))] H := hP
  have hD : va_D A [(qm, .inr (5, [.ref q_1, .ref q_2, .ref q_3, .ref q_4, .null, .null, .null, .null, .int 0, .null, .int 0, .null, .int 0, .null, .null, .int 0, .int 0, .int 0, .null, .null, .int 0, .int 0, .int 0, .long 0, .int 0, .null, .int 0, .int 0, .int 0, .null, .null, .null, .null, .null, .int 0])), (q_1, .inl (cy 0, 8, .inl (fun _ => 0))), (q_2, .inl (cy 0, 8, .inl (fun _ => 0))), (q_3, .inl (cy 0, 8, .inl (fun _ => 0))), (q_4, .inl (cy 4, 8, .inr (.inr (.inr (.inr (fun i => if i < 8 then some (r_5 i) else none)))))), (r_5 0, .inl (cy 1, 40, .inr (.inl (fun _ => 0)))), (r_5 1, .inl (cy 1, 40, .inr (.inl (fun _ => 0)))), (r_5 2, .inl (cy 1, 40, .inr (.inl (fun _ => 0)))), (r_5 3, .inl (cy 1, 40, .inr (.inl (fun _ => 0)))), (r_5 4, .inl (cy 1, 40, .inr (.inl (fun _ => 0)))), (r_5 5, .inl (cy 1, 40, .inr (.inl (fun _ => 0)))), (r_5 6, .inl (cy 1, 40, .inr (.inl (fun _ => 0)))), (r_5 7, .inl (cy 1, 40, .inr (.inl (fun _ => 0))))] := hD
  refine lv_aload_n hx hb dX6_init_40 rfl (lv_at hl 0 rfl) ?_
  refine lv_bipush (v := 40) hx hb dX6_init_41 (by decide) ?_
  refine newJ hx hb hts m_t139 hN hP hD hS hA 40 (by decide) (by decide) (Nat.le_of_ble_eq_true rfl) (Nat.le_of_ble_eq_true rfl) (Nat.le_of_ble_eq_true rfl) dX6_init_43 (fun q_6 H hP hD hS => ?_)
  have hP : va_P G CL [(qm, .inr (5, [.ref q_1, .ref q_2, .ref q_3, .ref q_4, .null, .null, .null, .null, .int 0, .null, .int 0, .null, .int 0, .null, .null, .int 0, .int 0, .int 0, .null, .null, .int 0, .int 0, .int 0, .long 0, .int 0, .null, .int 0, .int 0, .int 0, .null, .null, .null, .null, .null, .int 0])), (q_1, .inl (cy 0, 8, .inl (fun _ => 0))), (q_2, .inl (cy 0, 8, .inl (fun _ => 0))), (q_3, .inl (cy 0, 8, .inl (fun _ => 0))), (q_4, .inl (cy 4, 8, .inr (.inr (.inr (.inr (fun i => if i < 8 then some (r_5 i) else none)))))), (r_5 0, .inl (cy 1, 40, .inr (.inl (fun _ => 0)))), (r_5 1, .inl (cy 1, 40, .inr (.inl (fun _ => 0)))), (r_5 2, .inl (cy 1, 40, .inr (.inl (fun _ => 0)))), (r_5 3, .inl (cy 1, 40, .inr (.inl (fun _ => 0)))), (r_5 4, .inl (cy 1, 40, .inr (.inl (fun _ => 0)))), (r_5 5, .inl (cy 1, 40, .inr (.inl (fun _ => 0)))), (r_5 6, .inl (cy 1, 40, .inr (.inl (fun _ => 0)))), (r_5 7, .inl (cy 1, 40, .inr (.inl (fun _ => 0)))), (q_6, .inl (cy 1, 40, .inr (.inl (fun _ => 0))))] H := hP
  have hD : va_D A [(qm, .inr (5, [.ref q_1, .ref q_2, .ref q_3, .ref q_4, .null, .null, .null, .null, .int 0, .null, .int 0, .null, .int 0, .null, .null, .int 0, .int 0, .int 0, .null, .null, .int 0, .int 0, .int 0, .long 0, .int 0, .null, .int 0, .int 0, .int 0, .null, .null, .null, .null, .null, .int 0])), (q_1, .inl (cy 0, 8, .inl (fun _ => 0))), (q_2, .inl (cy 0, 8, .inl (fun _ => 0))), (q_3, .inl (cy 0, 8, .inl (fun _ => 0))), (q_4, .inl (cy 4, 8, .inr (.inr (.inr (.inr (fun i => if i < 8 then some (r_5 i) else none)))))), (r_5 0, .inl (cy 1, 40, .inr (.inl (fun _ => 0)))), (r_5 1, .inl (cy 1, 40, .inr (.inl (fun _ => 0)))), (r_5 2, .inl (cy 1, 40, .inr (.inl (fun _ => 0)))), (r_5 3, .inl (cy 1, 40, .inr (.inl (fun _ => 0)))), (r_5 4, .inl (cy 1, 40, .inr (.inl (fun _ => 0)))), (r_5 5, .inl (cy 1, 40, .inr (.inl (fun _ => 0)))), (r_5 6, .inl (cy 1, 40, .inr (.inl (fun _ => 0)))), (r_5 7, .inl (cy 1, 40, .inr (.inl (fun _ => 0)))), (q_6, .inl (cy 1, 40, .inr (.inl (fun _ => 0))))] := hD
  refine W.widen (k := 13) (n := 392) (Nat.le_of_ble_eq_true rfl) (Nat.le_of_ble_eq_true rfl) ?_
  refine va_putF (D := G) (ci := 5) (v := .ref q_6) (ty := (.array .long)) (C := RX6) (T := TX6) (N := 35) hx hb hts iX_X6 tyX6 tyX6_ok nmX6 hown hK hP hD hS 0 rfl rfl 4 (by decide) (hts _ m_t854) (fun _ h9 => h9) rfl hin rfl (by decide +kernel) rfl rfl (Nat.le_of_ble_eq_true rfl) dX6_init_45 (fun H locs hP hD hS => ?_)
  have hP : va_P G CL [(qm, .inr (5, [.ref q_1, .ref q_2, .ref q_3, .ref q_4, .ref q_6, .null, .null, .null, .int 0, .null, .int 0, .null, .int 0, .null, .null, .int 0, .int 0, .int 0, .null, .null, .int 0, .int 0, .int 0, .long 0, .int 0, .null, .int 0, .int 0, .int 0, .null, .null, .null, .null, .null, .int 0])), (q_1, .inl (cy 0, 8, .inl (fun _ => 0))), (q_2, .inl (cy 0, 8, .inl (fun _ => 0))), (q_3, .inl (cy 0, 8, .inl (fun _ => 0))), (q_4, .inl (cy 4, 8, .inr (.inr (.inr (.inr (fun i => if i < 8 then some (r_5 i) else none)))))), (r_5 0, .inl (cy 1, 40, .inr (.inl (fun _ => 0)))), (r_5 1, .inl (cy 1, 40, .inr (.inl (fun _ => 0)))), (r_5 2, .inl (cy 1, 40, .inr (.inl (fun _ => 0)))), (r_5 3, .inl (cy 1, 40, .inr (.inl (fun _ => 0)))), (r_5 4, .inl (cy 1, 40, .inr (.inl (fun _ => 0)))), (r_5 5, .inl (cy 1, 40, .inr (.inl (fun _ => 0)))), (r_5 6, .inl (cy 1, 40, .inr (.inl (fun _ => 0)))), (r_5 7, .inl (cy 1, 40, .inr (.inl (fun _ => 0)))), (q_6, .inl (cy 1, 40, .inr (.inl (fun _ => 0))))] H := hP
  have hD : va_D A [(qm, .inr (5, [.ref q_1, .ref q_2, .ref q_3, .ref q_4, .ref q_6, .null, .null, .null, .int 0, .null, .int 0, .null, .int 0, .null, .null, .int 0, .int 0, .int 0, .null, .null, .int 0, .int 0, .int 0, .long 0, .int 0, .null, .int 0, .int 0, .int 0, .null, .null, .null, .null, .null, .int 0])), (q_1, .inl (cy 0, 8, .inl (fun _ => 0))), (q_2, .inl (cy 0, 8, .inl (fun _ => 0))), (q_3, .inl (cy 0, 8, .inl (fun _ => 0))), (q_4, .inl (cy 4, 8, .inr (.inr (.inr (.inr (fun i => if i < 8 then some (r_5 i) else none)))))), (r_5 0, .inl (cy 1, 40, .inr (.inl (fun _ => 0)))), (r_5 1, .inl (cy 1, 40, .inr (.inl (fun _ => 0)))), (r_5 2, .inl (cy 1, 40, .inr (.inl (fun _ => 0)))), (r_5 3, .inl (cy 1, 40, .inr (.inl (fun _ => 0)))), (r_5 4, .inl (cy 1, 40, .inr (.inl (fun _ => 0)))), (r_5 5, .inl (cy 1, 40, .inr (.inl (fun _ => 0)))), (r_5 6, .inl (cy 1, 40, .inr (.inl (fun _ => 0)))), (r_5 7, .inl (cy 1, 40, .inr (.inl (fun _ => 0)))), (q_6, .inl (cy 1, 40, .inr (.inl (fun _ => 0))))] := hD
  refine lv_aload_n hx hb dX6_init_48 rfl (lv_at hl 0 rfl) ?_
  refine lv_bipush (v := 8) hx hb dX6_init_49 (by decide) ?_
  refine newI hx hb hts m_t92 hN hP hD hS hA 8 (by decide) (by decide) (Nat.le_of_ble_eq_true rfl) (Nat.le_of_ble_eq_true rfl) (Nat.le_of_ble_eq_true rfl) dX6_init_51 (fun q_7 H hP hD hS => ?_)
  have hP : va_P G CL [(qm, .inr (5, [.ref q_1, .ref q_2, .ref q_3, .ref q_4, .ref q_6, .null, .null, .null, .int 0, .null, .int 0, .null, .int 0, .null, .null, .int 0, .int 0, .int 0, .null, .null, .int 0, .int 0, .int 0, .long 0, .int 0, .null, .int 0, .int 0, .int 0, .null, .null, .null, .null, .null, .int 0])), (q_1, .inl (cy 0, 8, .inl (fun _ => 0))), (q_2, .inl (cy 0, 8, .inl (fun _ => 0))), (q_3, .inl (cy 0, 8, .inl (fun _ => 0))), (q_4, .inl (cy 4, 8, .inr (.inr (.inr (.inr (fun i => if i < 8 then some (r_5 i) else none)))))), (r_5 0, .inl (cy 1, 40, .inr (.inl (fun _ => 0)))), (r_5 1, .inl (cy 1, 40, .inr (.inl (fun _ => 0)))), (r_5 2, .inl (cy 1, 40, .inr (.inl (fun _ => 0)))), (r_5 3, .inl (cy 1, 40, .inr (.inl (fun _ => 0)))), (r_5 4, .inl (cy 1, 40, .inr (.inl (fun _ => 0)))), (r_5 5, .inl (cy 1, 40, .inr (.inl (fun _ => 0)))), (r_5 6, .inl (cy 1, 40, .inr (.inl (fun _ => 0)))), (r_5 7, .inl (cy 1, 40, .inr (.inl (fun _ => 0)))), (q_6, .inl (cy 1, 40, .inr (.inl (fun _ => 0)))), (q_7, .inl (cy 0, 8, .inl (fun _ => 0)))] H := hP
  have hD : va_D A [(qm, .inr (5, [.ref q_1, .ref q_2, .ref q_3, .ref q_4, .ref q_6, .null, .null, .null, .int 0, .null, .int 0, .null, .int 0, .null, .null, .int 0, .int 0, .int 0, .null, .null, .int 0, .int 0, .int 0, .long 0, .int 0, .null, .int 0, .int 0, .int 0, .null, .null, .null, .null, .null, .int 0])), (q_1, .inl (cy 0, 8, .inl (fun _ => 0))), (q_2, .inl (cy 0, 8, .inl (fun _ => 0))), (q_3, .inl (cy 0, 8, .inl (fun _ => 0))), (q_4, .inl (cy 4, 8, .inr (.inr (.inr (.inr (fun i => if i < 8 then some (r_5 i) else none)))))), (r_5 0, .inl (cy 1, 40, .inr (.inl (fun _ => 0)))), (r_5 1, .inl (cy 1, 40, .inr (.inl (fun _ => 0)))), (r_5 2, .inl (cy 1, 40, .inr (.inl (fun _ => 0)))), (r_5 3, .inl (cy 1, 40, .inr (.inl (fun _ => 0)))), (r_5 4, .inl (cy 1, 40, .inr (.inl (fun _ => 0)))), (r_5 5, .inl (cy 1, 40, .inr (.inl (fun _ => 0)))), (r_5 6, .inl (cy 1, 40, .inr (.inl (fun _ => 0)))), (r_5 7, .inl (cy 1, 40, .inr (.inl (fun _ => 0)))), (q_6, .inl (cy 1, 40, .inr (.inl (fun _ => 0)))), (q_7, .inl (cy 0, 8, .inl (fun _ => 0)))] := hD
  refine W.widen (k := 14) (n := 400) (Nat.le_of_ble_eq_true rfl) (Nat.le_of_ble_eq_true rfl) ?_
  refine va_putF (D := G) (ci := 5) (v := .ref q_7) (ty := (.array .int)) (C := RX6) (T := TX6) (N := 35) hx hb hts iX_X6 tyX6 tyX6_ok nmX6 hown hK hP hD hS 0 rfl rfl 5 (by decide) (hts _ m_t855) (fun _ h9 => h9) rfl hin rfl (by decide +kernel) rfl rfl (Nat.le_of_ble_eq_true rfl) dX6_init_53 (fun H locs hP hD hS => ?_)
  have hP : va_P G CL [(qm, .inr (5, [.ref q_1, .ref q_2, .ref q_3, .ref q_4, .ref q_6, .ref q_7, .null, .null, .int 0, .null, .int 0, .null, .int 0, .null, .null, .int 0, .int 0, .int 0, .null, .null, .int 0, .int 0, .int 0, .long 0, .int 0, .null, .int 0, .int 0, .int 0, .null, .null, .null, .null, .null, .int 0])), (q_1, .inl (cy 0, 8, .inl (fun _ => 0))), (q_2, .inl (cy 0, 8, .inl (fun _ => 0))), (q_3, .inl (cy 0, 8, .inl (fun _ => 0))), (q_4, .inl (cy 4, 8, .inr (.inr (.inr (.inr (fun i => if i < 8 then some (r_5 i) else none)))))), (r_5 0, .inl (cy 1, 40, .inr (.inl (fun _ => 0)))), (r_5 1, .inl (cy 1, 40, .inr (.inl (fun _ => 0)))), (r_5 2, .inl (cy 1, 40, .inr (.inl (fun _ => 0)))), (r_5 3, .inl (cy 1, 40, .inr (.inl (fun _ => 0)))), (r_5 4, .inl (cy 1, 40, .inr (.inl (fun _ => 0)))), (r_5 5, .inl (cy 1, 40, .inr (.inl (fun _ => 0)))), (r_5 6, .inl (cy 1, 40, .inr (.inl (fun _ => 0)))), (r_5 7, .inl (cy 1, 40, .inr (.inl (fun _ => 0)))), (q_6, .inl (cy 1, 40, .inr (.inl (fun _ => 0)))), (q_7, .inl (cy 0, 8, .inl (fun _ => 0)))] H := hP
  have hD : va_D A [(qm, .inr (5, [.ref q_1, .ref q_2, .ref q_3, .ref q_4, .ref q_6, .ref q_7, .null, .null, .int 0, .null, .int 0, .null, .int 0, .null, .null, .int 0, .int 0, .int 0, .null, .null, .int 0, .int 0, .int 0, .long 0, .int 0, .null, .int 0, .int 0, .int 0, .null, .null, .null, .null, .null, .int 0])), (q_1, .inl (cy 0, 8, .inl (fun _ => 0))), (q_2, .inl (cy 0, 8, .inl (fun _ => 0))), (q_3, .inl (cy 0, 8, .inl (fun _ => 0))), (q_4, .inl (cy 4, 8, .inr (.inr (.inr (.inr (fun i => if i < 8 then some (r_5 i) else none)))))), (r_5 0, .inl (cy 1, 40, .inr (.inl (fun _ => 0)))), (r_5 1, .inl (cy 1, 40, .inr (.inl (fun _ => 0)))), (r_5 2, .inl (cy 1, 40, .inr (.inl (fun _ => 0)))), (r_5 3, .inl (cy 1, 40, .inr (.inl (fun _ => 0)))), (r_5 4, .inl (cy 1, 40, .inr (.inl (fun _ => 0)))), (r_5 5, .inl (cy 1, 40, .inr (.inl (fun _ => 0)))), (r_5 6, .inl (cy 1, 40, .inr (.inl (fun _ => 0)))), (r_5 7, .inl (cy 1, 40, .inr (.inl (fun _ => 0)))), (q_6, .inl (cy 1, 40, .inr (.inl (fun _ => 0)))), (q_7, .inl (cy 0, 8, .inl (fun _ => 0)))] := hD
  refine lv_aload_n hx hb dX6_init_56 rfl (lv_at hl 0 rfl) ?_
  refine lv_bipush (v := 8) hx hb dX6_init_57 (by decide) ?_
  refine newI hx hb hts m_t92 hN hP hD hS hA 8 (by decide) (by decide) (Nat.le_of_ble_eq_true rfl) (Nat.le_of_ble_eq_true rfl) (Nat.le_of_ble_eq_true rfl) dX6_init_59 (fun q_8 H hP hD hS => ?_)
  have hP : va_P G CL [(qm, .inr (5, [.ref q_1, .ref q_2, .ref q_3, .ref q_4, .ref q_6, .ref q_7, .null, .null, .int 0, .null, .int 0, .null, .int 0, .null, .null, .int 0, .int 0, .int 0, .null, .null, .int 0, .int 0, .int 0, .long 0, .int 0, .null, .int 0, .int 0, .int 0, .null, .null, .null, .null, .null, .int 0])), (q_1, .inl (cy 0, 8, .inl (fun _ => 0))), (q_2, .inl (cy 0, 8, .inl (fun _ => 0))), (q_3, .inl (cy 0, 8, .inl (fun _ => 0))), (q_4, .inl (cy 4, 8, .inr (.inr (.inr (.inr (fun i => if i < 8 then some (r_5 i) else none)))))), (r_5 0, .inl (cy 1, 40, .inr (.inl (fun _ => 0)))), (r_5 1, .inl (cy 1, 40, .inr (.inl (fun _ => 0)))), (r_5 2, .inl (cy 1, 40, .inr (.inl (fun _ => 0)))), (r_5 3, .inl (cy 1, 40, .inr (.inl (fun _ => 0)))), (r_5 4, .inl (cy 1, 40, .inr (.inl (fun _ => 0)))), (r_5 5, .inl (cy 1, 40, .inr (.inl (fun _ => 0)))), (r_5 6, .inl (cy 1, 40, .inr (.inl (fun _ => 0)))), (r_5 7, .inl (cy 1, 40, .inr (.inl (fun _ => 0)))), (q_6, .inl (cy 1, 40, .inr (.inl (fun _ => 0)))), (q_7, .inl (cy 0, 8, .inl (fun _ => 0))), (q_8, .inl (cy 0, 8, .inl (fun _ => 0)))] H := hP
  have hD : va_D A [(qm, .inr (5, [.ref q_1, .ref q_2, .ref q_3, .ref q_4, .ref q_6, .ref q_7, .null, .null, .int 0, .null, .int 0, .null, .int 0, .null, .null, .int 0, .int 0, .int 0, .null, .null, .int 0, .int 0, .int 0, .long 0, .int 0, .null, .int 0, .int 0, .int 0, .null, .null, .null, .null, .null, .int 0])), (q_1, .inl (cy 0, 8, .inl (fun _ => 0))), (q_2, .inl (cy 0, 8, .inl (fun _ => 0))), (q_3, .inl (cy 0, 8, .inl (fun _ => 0))), (q_4, .inl (cy 4, 8, .inr (.inr (.inr (.inr (fun i => if i < 8 then some (r_5 i) else none)))))), (r_5 0, .inl (cy 1, 40, .inr (.inl (fun _ => 0)))), (r_5 1, .inl (cy 1, 40, .inr (.inl (fun _ => 0)))), (r_5 2, .inl (cy 1, 40, .inr (.inl (fun _ => 0)))), (r_5 3, .inl (cy 1, 40, .inr (.inl (fun _ => 0)))), (r_5 4, .inl (cy 1, 40, .inr (.inl (fun _ => 0)))), (r_5 5, .inl (cy 1, 40, .inr (.inl (fun _ => 0)))), (r_5 6, .inl (cy 1, 40, .inr (.inl (fun _ => 0)))), (r_5 7, .inl (cy 1, 40, .inr (.inl (fun _ => 0)))), (q_6, .inl (cy 1, 40, .inr (.inl (fun _ => 0)))), (q_7, .inl (cy 0, 8, .inl (fun _ => 0))), (q_8, .inl (cy 0, 8, .inl (fun _ => 0)))] := hD
  refine W.widen (k := 15) (n := 408) (Nat.le_of_ble_eq_true rfl) (Nat.le_of_ble_eq_true rfl) ?_
  refine va_putF (D := G) (ci := 5) (v := .ref q_8) (ty := (.array .int)) (C := RX6) (T := TX6) (N := 35) hx hb hts iX_X6 tyX6 tyX6_ok nmX6 hown hK hP hD hS 0 rfl rfl 6 (by decide) (hts _ m_t856) (fun _ h9 => h9) rfl hin rfl (by decide +kernel) rfl rfl (Nat.le_of_ble_eq_true rfl) dX6_init_61 (fun H locs hP hD hS => ?_)
  have hP : va_P G CL [(qm, .inr (5, [.ref q_1, .ref q_2, .ref q_3, .ref q_4, .ref q_6, .ref q_7, .ref q_8, .null, .int 0, .null, .int 0, .null, .int 0, .null, .null, .int 0, .int 0, .int 0, .null, .null, .int 0, .int 0, .int 0, .long 0, .int 0, .null, .int 0, .int 0, .int 0, .null, .null, .null, .null, .null, .int 0])), (q_1, .inl (cy 0, 8, .inl (fun _ => 0))), (q_2, .inl (cy 0, 8, .inl (fun _ => 0))), (q_3, .inl (cy 0, 8, .inl (fun _ => 0))), (q_4, .inl (cy 4, 8, .inr (.inr (.inr (.inr (fun i => if i < 8 then some (r_5 i) else none)))))), (r_5 0, .inl (cy 1, 40, .inr (.inl (fun _ => 0)))), (r_5 1, .inl (cy 1, 40, .inr (.inl (fun _ => 0)))), (r_5 2, .inl (cy 1, 40, .inr (.inl (fun _ => 0)))), (r_5 3, .inl (cy 1, 40, .inr (.inl (fun _ => 0)))), (r_5 4, .inl (cy 1, 40, .inr (.inl (fun _ => 0)))), (r_5 5, .inl (cy 1, 40, .inr (.inl (fun _ => 0)))), (r_5 6, .inl (cy 1, 40, .inr (.inl (fun _ => 0)))), (r_5 7, .inl (cy 1, 40, .inr (.inl (fun _ => 0)))), (q_6, .inl (cy 1, 40, .inr (.inl (fun _ => 0)))), (q_7, .inl (cy 0, 8, .inl (fun _ => 0))), (q_8, .inl (cy 0, 8, .inl (fun _ => 0)))] H := hP
  have hD : va_D A [(qm, .inr (5, [.ref q_1, .ref q_2, .ref q_3, .ref q_4, .ref q_6, .ref q_7, .ref q_8, .null, .int 0, .null, .int 0, .null, .int 0, .null, .null, .int 0, .int 0, .int 0, .null, .null, .int 0, .int 0, .int 0, .long 0, .int 0, .null, .int 0, .int 0, .int 0, .null, .null, .null, .null, .null, .int 0])), (q_1, .inl (cy 0, 8, .inl (fun _ => 0))), (q_2, .inl (cy 0, 8, .inl (fun _ => 0))), (q_3, .inl (cy 0, 8, .inl (fun _ => 0))), (q_4, .inl (cy 4, 8, .inr (.inr (.inr (.inr (fun i => if i < 8 then some (r_5 i) else none)))))), (r_5 0, .inl (cy 1, 40, .inr (.inl (fun _ => 0)))), (r_5 1, .inl (cy 1, 40, .inr (.inl (fun _ => 0)))), (r_5 2, .inl (cy 1, 40, .inr (.inl (fun _ => 0)))), (r_5 3, .inl (cy 1, 40, .inr (.inl (fun _ => 0)))), (r_5 4, .inl (cy 1, 40, .inr (.inl (fun _ => 0)))), (r_5 5, .inl (cy 1, 40, .inr (.inl (fun _ => 0)))), (r_5 6, .inl (cy 1, 40, .inr (.inl (fun _ => 0)))), (r_5 7, .inl (cy 1, 40, .inr (.inl (fun _ => 0)))), (q_6, .inl (cy 1, 40, .inr (.inl (fun _ => 0)))), (q_7, .inl (cy 0, 8, .inl (fun _ => 0))), (q_8, .inl (cy 0, 8, .inl (fun _ => 0)))] := hD
  refine lv_aload_n hx hb dX6_init_64 rfl (lv_at hl 0 rfl) ?_
  refine lv_sipush (v := 250) hx hb dX6_init_65 (by decide) ?_
  refine newI hx hb hts m_t92 hN hP hD hS hA 250 (by decide) (by decide) (Nat.le_of_ble_eq_true rfl) (Nat.le_of_ble_eq_true rfl) (Nat.le_of_ble_eq_true rfl) dX6_init_68 (fun q_9 H hP hD hS => ?_)
  have hP : va_P G CL [(qm, .inr (5, [.ref q_1, .ref q_2, .ref q_3, .ref q_4, .ref q_6, .ref q_7, .ref q_8, .null, .int 0, .null, .int 0, .null, .int 0, .null, .null, .int 0, .int 0, .int 0, .null, .null, .int 0, .int 0, .int 0, .long 0, .int 0, .null, .int 0, .int 0, .int 0, .null, .null, .null, .null, .null, .int 0])), (q_1, .inl (cy 0, 8, .inl (fun _ => 0))), (q_2, .inl (cy 0, 8, .inl (fun _ => 0))), (q_3, .inl (cy 0, 8, .inl (fun _ => 0))), (q_4, .inl (cy 4, 8, .inr (.inr (.inr (.inr (fun i => if i < 8 then some (r_5 i) else none)))))), (r_5 0, .inl (cy 1, 40, .inr (.inl (fun _ => 0)))), (r_5 1, .inl (cy 1, 40, .inr (.inl (fun _ => 0)))), (r_5 2, .inl (cy 1, 40, .inr (.inl (fun _ => 0)))), (r_5 3, .inl (cy 1, 40, .inr (.inl (fun _ => 0)))), (r_5 4, .inl (cy 1, 40, .inr (.inl (fun _ => 0)))), (r_5 5, .inl (cy 1, 40, .inr (.inl (fun _ => 0)))), (r_5 6, .inl (cy 1, 40, .inr (.inl (fun _ => 0)))), (r_5 7, .inl (cy 1, 40, .inr (.inl (fun _ => 0)))), (q_6, .inl (cy 1, 40, .inr (.inl (fun _ => 0)))), (q_7, .inl (cy 0, 8, .inl (fun _ => 0))), (q_8, .inl (cy 0, 8, .inl (fun _ => 0))), (q_9, .inl (cy 0, 250, .inl (fun _ => 0)))] H := hP
  have hD : va_D A [(qm, .inr (5, [.ref q_1, .ref q_2, .ref q_3, .ref q_4, .ref q_6, .ref q_7, .ref q_8, .null, .int 0, .null, .int 0, .null, .int 0, .null, .null, .int 0, .int 0, .int 0, .null, .null, .int 0, .int 0, .int 0, .long 0, .int 0, .null, .int 0, .int 0, .int 0, .null, .null, .null, .null, .null, .int 0])), (q_1, .inl (cy 0, 8, .inl (fun _ => 0))), (q_2, .inl (cy 0, 8, .inl (fun _ => 0))), (q_3, .inl (cy 0, 8, .inl (fun _ => 0))), (q_4, .inl (cy 4, 8, .inr (.inr (.inr (.inr (fun i => if i < 8 then some (r_5 i) else none)))))), (r_5 0, .inl (cy 1, 40, .inr (.inl (fun _ => 0)))), (r_5 1, .inl (cy 1, 40, .inr (.inl (fun _ => 0)))), (r_5 2, .inl (cy 1, 40, .inr (.inl (fun _ => 0)))), (r_5 3, .inl (cy 1, 40, .inr (.inl (fun _ => 0)))), (r_5 4, .inl (cy 1, 40, .inr (.inl (fun _ => 0)))), (r_5 5, .inl (cy 1, 40, .inr (.inl (fun _ => 0)))), (r_5 6, .inl (cy 1, 40, .inr (.inl (fun _ => 0)))), (r_5 7, .inl (cy 1, 40, .inr (.inl (fun _ => 0)))), (q_6, .inl (cy 1, 40, .inr (.inl (fun _ => 0)))), (q_7, .inl (cy 0, 8, .inl (fun _ => 0))), (q_8, .inl (cy 0, 8, .inl (fun _ => 0))), (q_9, .inl (cy 0, 250, .inl (fun _ => 0)))] := hD
  refine W.widen (k := 16) (n := 658) (Nat.le_of_ble_eq_true rfl) (Nat.le_of_ble_eq_true rfl) ?_
  refine va_putF (D := G) (ci := 5) (v := .ref q_9) (ty := (.array .int)) (C := RX6) (T := TX6) (N := 35) hx hb hts iX_X6 tyX6 tyX6_ok nmX6 hown hK hP hD hS 0 rfl rfl 7 (by decide) (hts _ m_t857) (fun _ h9 => h9) rfl hin rfl (by decide +kernel) rfl rfl (Nat.le_of_ble_eq_true rfl) dX6_init_70 (fun H locs hP hD hS => ?_)
  have hP : va_P G CL [(qm, .inr (5, [.ref q_1, .ref q_2, .ref q_3, .ref q_4, .ref q_6, .ref q_7, .ref q_8, .ref q_9, .int 0, .null, .int 0, .null, .int 0, .null, .null, .int 0, .int 0, .int 0, .null, .null, .int 0, .int 0, .int 0, .long 0, .int 0, .null, .int 0, .int 0, .int 0, .null, .null, .null, .null, .null, .int 0])), (q_1, .inl (cy 0, 8, .inl (fun _ => 0))), (q_2, .inl (cy 0, 8, .inl (fun _ => 0))), (q_3, .inl (cy 0, 8, .inl (fun _ => 0))), (q_4, .inl (cy 4, 8, .inr (.inr (.inr (.inr (fun i => if i < 8 then some (r_5 i) else none)))))), (r_5 0, .inl (cy 1, 40, .inr (.inl (fun _ => 0)))), (r_5 1, .inl (cy 1, 40, .inr (.inl (fun _ => 0)))), (r_5 2, .inl (cy 1, 40, .inr (.inl (fun _ => 0)))), (r_5 3, .inl (cy 1, 40, .inr (.inl (fun _ => 0)))), (r_5 4, .inl (cy 1, 40, .inr (.inl (fun _ => 0)))), (r_5 5, .inl (cy 1, 40, .inr (.inl (fun _ => 0)))), (r_5 6, .inl (cy 1, 40, .inr (.inl (fun _ => 0)))), (r_5 7, .inl (cy 1, 40, .inr (.inl (fun _ => 0)))), (q_6, .inl (cy 1, 40, .inr (.inl (fun _ => 0)))), (q_7, .inl (cy 0, 8, .inl (fun _ => 0))), (q_8, .inl (cy 0, 8, .inl (fun _ => 0))), (q_9, .inl (cy 0, 250, .inl (fun _ => 0)))] H := hP
  have hD : va_D A [(qm, .inr (5, [.ref q_1, .ref q_2, .ref q_3, .ref q_4, .ref q_6, .ref q_7, .ref q_8, .ref q_9, .int 0, .null, .int 0, .null, .int 0, .null, .null, .int 0, .int 0, .int 0, .null, .null, .int 0, .int 0, .int 0, .long 0, .int 0, .null, .int 0, .int 0, .int 0, .null, .null, .null, .null, .null, .int 0])), (q_1, .inl (cy 0, 8, .inl (fun _ => 0))), (q_2, .inl (cy 0, 8, .inl (fun _ => 0))), (q_3, .inl (cy 0, 8, .inl (fun _ => 0))), (q_4, .inl (cy 4, 8, .inr (.inr (.inr (.inr (fun i => if i < 8 then some (r_5 i) else none)))))), (r_5 0, .inl (cy 1, 40, .inr (.inl (fun _ => 0)))), (r_5 1, .inl (cy 1, 40, .inr (.inl (fun _ => 0)))), (r_5 2, .inl (cy 1, 40, .inr (.inl (fun _ => 0)))), (r_5 3, .inl (cy 1, 40, .inr (.inl (fun _ => 0)))), (r_5 4, .inl (cy 1, 40, .inr (.inl (fun _ => 0)))), (r_5 5, .inl (cy 1, 40, .inr (.inl (fun _ => 0)))), (r_5 6, .inl (cy 1, 40, .inr (.inl (fun _ => 0)))), (r_5 7, .inl (cy 1, 40, .inr (.inl (fun _ => 0)))), (q_6, .inl (cy 1, 40, .inr (.inl (fun _ => 0)))), (q_7, .inl (cy 0, 8, .inl (fun _ => 0))), (q_8, .inl (cy 0, 8, .inl (fun _ => 0))), (q_9, .inl (cy 0, 250, .inl (fun _ => 0)))] := hD
  refine lv_aload_n hx hb dX6_init_73 rfl (lv_at hl 0 rfl) ?_
  refine lv_bipush (v := 8) hx hb dX6_init_74 (by decide) ?_
  refine newI hx hb hts m_t92 hN hP hD hS hA 8 (by decide) (by decide) (Nat.le_of_ble_eq_true rfl) (Nat.le_of_ble_eq_true rfl) (Nat.le_of_ble_eq_true rfl) dX6_init_76 (fun q_10 H hP hD hS => ?_)
  have hP : va_P G CL [(qm, .inr (5, [.ref q_1, .ref q_2, .ref q_3, .ref q_4, .ref q_6, .ref q_7, .ref q_8, .ref q_9, .int 0, .null, .int 0, .null, .int 0, .null, .null, .int 0, .int 0, .int 0, .null, .null, .int 0, .int 0, .int 0, .long 0, .int 0, .null, .int 0, .int 0, .int 0, .null, .null, .null, .null, .null, .int 0])), (q_1, .inl (cy 0, 8, .inl (fun _ => 0))), (q_2, .inl (cy 0, 8, .inl (fun _ => 0))), (q_3, .inl (cy 0, 8, .inl (fun _ => 0))), (q_4, .inl (cy 4, 8, .inr (.inr (.inr (.inr (fun i => if i < 8 then some (r_5 i) else none)))))), (r_5 0, .inl (cy 1, 40, .inr (.inl (fun _ => 0)))), (r_5 1, .inl (cy 1, 40, .inr (.inl (fun _ => 0)))), (r_5 2, .inl (cy 1, 40, .inr (.inl (fun _ => 0)))), (r_5 3, .inl (cy 1, 40, .inr (.inl (fun _ => 0)))), (r_5 4, .inl (cy 1, 40, .inr (.inl (fun _ => 0)))), (r_5 5, .inl (cy 1, 40, .inr (.inl (fun _ => 0)))), (r_5 6, .inl (cy 1, 40, .inr (.inl (fun _ => 0)))), (r_5 7, .inl (cy 1, 40, .inr (.inl (fun _ => 0)))), (q_6, .inl (cy 1, 40, .inr (.inl (fun _ => 0)))), (q_7, .inl (cy 0, 8, .inl (fun _ => 0))), (q_8, .inl (cy 0, 8, .inl (fun _ => 0))), (q_9, .inl (cy 0, 250, .inl (fun _ => 0))), (q_10, .inl (cy 0, 8, .inl (fun _ => 0)))] H := hP
  have hD : va_D A [(qm, .inr (5, [.ref q_1, .ref q_2, .ref q_3, .ref q_4, .ref q_6, .ref q_7, .ref q_8, .ref q_9, .int 0, .null, .int 0, .null, .int 0, .null, .null, .int 0, .int 0, .int 0, .null, .null, .int 0, .int 0, .int 0, .long 0, .int 0, .null, .int 0, .int 0, .int 0, .null, .null, .null, .null, .null, .int 0])), (q_1, .inl (cy 0, 8, .inl (fun _ => 0))), (q_2, .inl (cy 0, 8, .inl (fun _ => 0))), (q_3, .inl (cy 0, 8, .inl (fun _ => 0))), (q_4, .inl (cy 4, 8, .inr (.inr (.inr (.inr (fun i => if i < 8 then some (r_5 i) else none)))))), (r_5 0, .inl (cy 1, 40, .inr (.inl (fun _ => 0)))), (r_5 1, .inl (cy 1, 40, .inr (.inl (fun _ => 0)))), (r_5 2, .inl (cy 1, 40, .inr (.inl (fun _ => 0)))), (r_5 3, .inl (cy 1, 40, .inr (.inl (fun _ => 0)))), (r_5 4, .inl (cy 1, 40, .inr (.inl (fun _ => 0)))), (r_5 5, .inl (cy 1, 40, .inr (.inl (fun _ => 0)))), (r_5 6, .inl (cy 1, 40, .inr (.inl (fun _ => 0)))), (r_5 7, .inl (cy 1, 40, .inr (.inl (fun _ => 0)))), (q_6, .inl (cy 1, 40, .inr (.inl (fun _ => 0)))), (q_7, .inl (cy 0, 8, .inl (fun _ => 0))), (q_8, .inl (cy 0, 8, .inl (fun _ => 0))), (q_9, .inl (cy 0, 250, .inl (fun _ => 0))), (q_10, .inl (cy 0, 8, .inl (fun _ => 0)))] := hD
  refine W.widen (k := 17) (n := 666) (Nat.le_of_ble_eq_true rfl) (Nat.le_of_ble_eq_true rfl) ?_
  refine va_putF (D := G) (ci := 5) (v := .ref q_10) (ty := (.array .int)) (C := RX6) (T := TX6) (N := 35) hx hb hts iX_X6 tyX6 tyX6_ok nmX6 hown hK hP hD hS 0 rfl rfl 9 (by decide) (hts _ m_t859) (fun _ h9 => h9) rfl hin rfl (by decide +kernel) rfl rfl (Nat.le_of_ble_eq_true rfl) dX6_init_78 (fun H locs hP hD hS => ?_)
  have hP : va_P G CL [(qm, .inr (5, [.ref q_1, .ref q_2, .ref q_3, .ref q_4, .ref q_6, .ref q_7, .ref q_8, .ref q_9, .int 0, .ref q_10, .int 0, .null, .int 0, .null, .null, .int 0, .int 0, .int 0, .null, .null, .int 0, .int 0, .int 0, .long 0, .int 0, .null, .int 0, .int 0, .int 0, .null, .null, .null, .null, .null, .int 0])), (q_1, .inl (cy 0, 8, .inl (fun _ => 0))), (q_2, .inl (cy 0, 8, .inl (fun _ => 0))), (q_3, .inl (cy 0, 8, .inl (fun _ => 0))), (q_4, .inl (cy 4, 8, .inr (.inr (.inr (.inr (fun i => if i < 8 then some (r_5 i) else none)))))), (r_5 0, .inl (cy 1, 40, .inr (.inl (fun _ => 0)))), (r_5 1, .inl (cy 1, 40, .inr (.inl (fun _ => 0)))), (r_5 2, .inl (cy 1, 40, .inr (.inl (fun _ => 0)))), (r_5 3, .inl (cy 1, 40, .inr (.inl (fun _ => 0)))), (r_5 4, .inl (cy 1, 40, .inr (.inl (fun _ => 0)))), (r_5 5, .inl (cy 1, 40, .inr (.inl (fun _ => 0)))), (r_5 6, .inl (cy 1, 40, .inr (.inl (fun _ => 0)))), (r_5 7, .inl (cy 1, 40, .inr (.inl (fun _ => 0)))), (q_6, .inl (cy 1, 40, .inr (.inl (fun _ => 0)))), (q_7, .inl (cy 0, 8, .inl (fun _ => 0))), (q_8, .inl (cy 0, 8, .inl (fun _ => 0))), (q_9, .inl (cy 0, 250, .inl (fun _ => 0))), (q_10, .inl (cy 0, 8, .inl (fun _ => 0)))] H := hP
  have hD : va_D A [(qm, .inr (5, [.ref q_1, .ref q_2, .ref q_3, .ref q_4, .ref q_6, .ref q_7, .ref q_8, .ref q_9, .int 0, .ref q_10, .int 0, .null, .int 0, .null, .null, .int 0, .int 0, .int 0, .null, .null, .int 0, .int 0, .int 0, .long 0, .int 0, .null, .int 0, .int 0, .int 0, .null, .null, .null, .null, .null, .int 0])), (q_1, .inl (cy 0, 8, .inl (fun _ => 0))), (q_2, .inl (cy 0, 8, .inl (fun _ => 0))), (q_3, .inl (cy 0, 8, .inl (fun _ => 0))), (q_4, .inl (cy 4, 8, .inr (.inr (.inr (.inr (fun i => if i < 8 then some (r_5 i) else none)))))), (r_5 0, .inl (cy 1, 40, .inr (.inl (fun _ => 0)))), (r_5 1, .inl (cy 1, 40, .inr (.inl (fun _ => 0)))), (r_5 2, .inl (cy 1, 40, .inr (.inl (fun _ => 0)))), (r_5 3, .inl (cy 1, 40, .inr (.inl (fun _ => 0)))), (r_5 4, .inl (cy 1, 40, .inr (.inl (fun _ => 0)))), (r_5 5, .inl (cy 1, 40, .inr (.inl (fun _ => 0)))), (r_5 6, .inl (cy 1, 40, .inr (.inl (fun _ => 0)))), (r_5 7, .inl (cy 1, 40, .inr (.inl (fun _ => 0)))), (q_6, .inl (cy 1, 40, .inr (.inl (fun _ => 0)))), (q_7, .inl (cy 0, 8, .inl (fun _ => 0))), (q_8, .inl (cy 0, 8, .inl (fun _ => 0))), (q_9, .inl (cy 0, 250, .inl (fun _ => 0))), (q_10, .inl (cy 0, 8, .inl (fun _ => 0)))] := hD
  refine lv_aload_n hx hb dX6_init_81 rfl (lv_at hl 0 rfl) ?_
  refine lv_bipush (v := 8) hx hb dX6_init_82 (by decide) ?_
  refine lv_iconst (v := 4) hx hb dX6_init_84 (by decide) ?_
  refine newII hx hb hts hown m_t846 m_t92 hN hP hD hS hA 4 (by decide) (by decide) (by decide) (Nat.le_of_ble_eq_true rfl) (Nat.le_of_ble_eq_true rfl) (Nat.le_of_ble_eq_true rfl) (Nat.le_of_ble_eq_true rfl) dX6_init_85 (fun q_11 r_12 H hP hD hS => ?_)
  have hP : va_P G CL [(qm, .inr (5, [.ref q_1, .ref q_2, .ref q_3, .ref q_4, .ref q_6, .ref q_7, .ref q_8, .ref q_9, .int 0, .ref q_10, .int 0, .null, .int 0, .null, .null, .int 0, .int 0, .int 0, .null, .null, .int 0, .int 0, .int 0, .long 0, .int 0, .null, .int 0, .int 0, .int 0, .null, .null, .null, .null, .null, .int 0])), (q_1, .inl (cy 0, 8, .inl (fun _ => 0))), (q_2, .inl (cy 0, 8, .inl (fun _ => 0))), (q_3, .inl (cy 0, 8, .inl (fun _ => 0))), (q_4, .inl (cy 4, 8, .inr (.inr (.inr (.inr (fun i => if i < 8 then some (r_5 i) else none)))))), (r_5 0, .inl (cy 1, 40, .inr (.inl (fun _ => 0)))), (r_5 1, .inl (cy 1, 40, .inr (.inl (fun _ => 0)))), (r_5 2, .inl (cy 1, 40, .inr (.inl (fun _ => 0)))), (r_5 3, .inl (cy 1, 40, .inr (.inl (fun _ => 0)))), (r_5 4, .inl (cy 1, 40, .inr (.inl (fun _ => 0)))), (r_5 5, .inl (cy 1, 40, .inr (.inl (fun _ => 0)))), (r_5 6, .inl (cy 1, 40, .inr (.inl (fun _ => 0)))), (r_5 7, .inl (cy 1, 40, .inr (.inl (fun _ => 0)))), (q_6, .inl (cy 1, 40, .inr (.inl (fun _ => 0)))), (q_7, .inl (cy 0, 8, .inl (fun _ => 0))), (q_8, .inl (cy 0, 8, .inl (fun _ => 0))), (q_9, .inl (cy 0, 250, .inl (fun _ => 0))), (q_10, .inl (cy 0, 8, .inl (fun _ => 0))), (q_11, .inl (cy 3, 8, .inr (.inr (.inr (.inr (fun i => if i < 8 then some (r_12 i) else none)))))), (r_12 0, .inl (cy 0, 4, .inl (fun _ => 0))), (r_12 1, .inl (cy 0, 4, .inl (fun _ => 0))), (r_12 2, .inl (cy 0, 4, .inl (fun _ => 0))), (r_12 3, .inl (cy 0, 4, .inl (fun _ => 0))), (r_12 4, .inl (cy 0, 4, .inl (fun _ => 0))), (r_12 5, .inl (cy 0, 4, .inl (fun _ => 0))), (r_12 6, .inl (cy 0, 4, .inl (fun _ => 0))), (r_12 7, .inl (cy 0, 4, .inl (fun _ => 0)))] H := hP
  have hD : va_D A [(qm, .inr (5, [.ref q_1, .ref q_2, .ref q_3, .ref q_4, .ref q_6, .ref q_7, .ref q_8, .ref q_9, .int 0, .ref q_10, .int 0, .null, .int 0, .null, .null, .int 0, .int 0, .int 0, .null, .null, .int 0, .int 0, .int 0, .long 0, .int 0, .null, .int 0, .int 0, .int 0, .null, .null, .null, .null, .null, .int 0])), (q_1, .inl (cy 0, 8, .inl (fun _ => 0))), (q_2, .inl (cy 0, 8, .inl (fun _ => 0))), (q_3, .inl (cy 0, 8, .inl (fun _ => 0))), (q_4, .inl (cy 4, 8, .inr (.inr (.inr (.inr (fun i => if i < 8 then some (r_5 i) else none)))))), (r_5 0, .inl (cy 1, 40, .inr (.inl (fun _ => 0)))), (r_5 1, .inl (cy 1, 40, .inr (.inl (fun _ => 0)))), (r_5 2, .inl (cy 1, 40, .inr (.inl (fun _ => 0)))), (r_5 3, .inl (cy 1, 40, .inr (.inl (fun _ => 0)))), (r_5 4, .inl (cy 1, 40, .inr (.inl (fun _ => 0)))), (r_5 5, .inl (cy 1, 40, .inr (.inl (fun _ => 0)))), (r_5 6, .inl (cy 1, 40, .inr (.inl (fun _ => 0)))), (r_5 7, .inl (cy 1, 40, .inr (.inl (fun _ => 0)))), (q_6, .inl (cy 1, 40, .inr (.inl (fun _ => 0)))), (q_7, .inl (cy 0, 8, .inl (fun _ => 0))), (q_8, .inl (cy 0, 8, .inl (fun _ => 0))), (q_9, .inl (cy 0, 250, .inl (fun _ => 0))), (q_10, .inl (cy 0, 8, .inl (fun _ => 0))), (q_11, .inl (cy 3, 8, .inr (.inr (.inr (.inr (fun i => if i < 8 then some (r_12 i) else none)))))), (r_12 0, .inl (cy 0, 4, .inl (fun _ => 0))), (r_12 1, .inl (cy 0, 4, .inl (fun _ => 0))), (r_12 2, .inl (cy 0, 4, .inl (fun _ => 0))), (r_12 3, .inl (cy 0, 4, .inl (fun _ => 0))), (r_12 4, .inl (cy 0, 4, .inl (fun _ => 0))), (r_12 5, .inl (cy 0, 4, .inl (fun _ => 0))), (r_12 6, .inl (cy 0, 4, .inl (fun _ => 0))), (r_12 7, .inl (cy 0, 4, .inl (fun _ => 0)))] := hD
  refine W.widen (k := 26) (n := 706) (Nat.le_of_ble_eq_true rfl) (Nat.le_of_ble_eq_true rfl) ?_
  refine va_putF (D := G) (ci := 5) (v := .ref q_11) (ty := (.array (.array .int))) (C := RX6) (T := TX6) (N := 35) hx hb hts iX_X6 tyX6 tyX6_ok nmX6 hown hK hP hD hS 0 rfl rfl 11 (by decide) (hts _ m_t861) (fun _ h9 => h9) rfl hin rfl (by decide +kernel) rfl rfl (Nat.le_of_ble_eq_true rfl) dX6_init_89 (fun H locs hP hD hS => ?_)
  have hP : va_P G CL [(qm, .inr (5, [.ref q_1, .ref q_2, .ref q_3, .ref q_4, .ref q_6, .ref q_7, .ref q_8, .ref q_9, .int 0, .ref q_10, .int 0, .ref q_11, .int 0, .null, .null, .int 0, .int 0, .int 0, .null, .null, .int 0, .int 0, .int 0, .long 0, .int 0, .null, .int 0, .int 0, .int 0, .null, .null, .null, .null, .null, .int 0])), (q_1, .inl (cy 0, 8, .inl (fun _ => 0))), (q_2, .inl (cy 0, 8, .inl (fun _ => 0))), (q_3, .inl (cy 0, 8, .inl (fun _ => 0))), (q_4, .inl (cy 4, 8, .inr (.inr (.inr (.inr (fun i => if i < 8 then some (r_5 i) else none)))))), (r_5 0, .inl (cy 1, 40, .inr (.inl (fun _ => 0)))), (r_5 1, .inl (cy 1, 40, .inr (.inl (fun _ => 0)))), (r_5 2, .inl (cy 1, 40, .inr (.inl (fun _ => 0)))), (r_5 3, .inl (cy 1, 40, .inr (.inl (fun _ => 0)))), (r_5 4, .inl (cy 1, 40, .inr (.inl (fun _ => 0)))), (r_5 5, .inl (cy 1, 40, .inr (.inl (fun _ => 0)))), (r_5 6, .inl (cy 1, 40, .inr (.inl (fun _ => 0)))), (r_5 7, .inl (cy 1, 40, .inr (.inl (fun _ => 0)))), (q_6, .inl (cy 1, 40, .inr (.inl (fun _ => 0)))), (q_7, .inl (cy 0, 8, .inl (fun _ => 0))), (q_8, .inl (cy 0, 8, .inl (fun _ => 0))), (q_9, .inl (cy 0, 250, .inl (fun _ => 0))), (q_10, .inl (cy 0, 8, .inl (fun _ => 0))), (q_11, .inl (cy 3, 8, .inr (.inr (.inr (.inr (fun i => if i < 8 then some (r_12 i) else none)))))), (r_12 0, .inl (cy 0, 4, .inl (fun _ => 0))), (r_12 1, .inl (cy 0, 4, .inl (fun _ => 0))), (r_12 2, .inl (cy 0, 4, .inl (fun _ => 0))), (r_12 3, .inl (cy 0, 4, .inl (fun _ => 0))), (r_12 4, .inl (cy 0, 4, .inl (fun _ => 0))), (r_12 5, .inl (cy 0, 4, .inl (fun _ => 0))), (r_12 6, .inl (cy 0, 4, .inl (fun _ => 0))), (r_12 7, .inl (cy 0, 4, .inl (fun _ => 0)))] H := hP
  have hD : va_D A [(qm, .inr (5, [.ref q_1, .ref q_2, .ref q_3, .ref q_4, .ref q_6, .ref q_7, .ref q_8, .ref q_9, .int 0, .ref q_10, .int 0, .ref q_11, .int 0, .null, .null, .int 0, .int 0, .int 0, .null, .null, .int 0, .int 0, .int 0, .long 0, .int 0, .null, .int 0, .int 0, .int 0, .null, .null, .null, .null, .null, .int 0])), (q_1, .inl (cy 0, 8, .inl (fun _ => 0))), (q_2, .inl (cy 0, 8, .inl (fun _ => 0))), (q_3, .inl (cy 0, 8, .inl (fun _ => 0))), (q_4, .inl (cy 4, 8, .inr (.inr (.inr (.inr (fun i => if i < 8 then some (r_5 i) else none)))))), (r_5 0, .inl (cy 1, 40, .inr (.inl (fun _ => 0)))), (r_5 1, .inl (cy 1, 40, .inr (.inl (fun _ => 0)))), (r_5 2, .inl (cy 1, 40, .inr (.inl (fun _ => 0)))), (r_5 3, .inl (cy 1, 40, .inr (.inl (fun _ => 0)))), (r_5 4, .inl (cy 1, 40, .inr (.inl (fun _ => 0)))), (r_5 5, .inl (cy 1, 40, .inr (.inl (fun _ => 0)))), (r_5 6, .inl (cy 1, 40, .inr (.inl (fun _ => 0)))), (r_5 7, .inl (cy 1, 40, .inr (.inl (fun _ => 0)))), (q_6, .inl (cy 1, 40, .inr (.inl (fun _ => 0)))), (q_7, .inl (cy 0, 8, .inl (fun _ => 0))), (q_8, .inl (cy 0, 8, .inl (fun _ => 0))), (q_9, .inl (cy 0, 250, .inl (fun _ => 0))), (q_10, .inl (cy 0, 8, .inl (fun _ => 0))), (q_11, .inl (cy 3, 8, .inr (.inr (.inr (.inr (fun i => if i < 8 then some (r_12 i) else none)))))), (r_12 0, .inl (cy 0, 4, .inl (fun _ => 0))), (r_12 1, .inl (cy 0, 4, .inl (fun _ => 0))), (r_12 2, .inl (cy 0, 4, .inl (fun _ => 0))), (r_12 3, .inl (cy 0, 4, .inl (fun _ => 0))), (r_12 4, .inl (cy 0, 4, .inl (fun _ => 0))), (r_12 5, .inl (cy 0, 4, .inl (fun _ => 0))), (r_12 6, .inl (cy 0, 4, .inl (fun _ => 0))), (r_12 7, .inl (cy 0, 4, .inl (fun _ => 0)))] := hD
  refine lv_aload_n hx hb dX6_init_92 rfl (lv_at hl 0 rfl) ?_
  refine lv_bipush (v := 8) hx hb dX6_init_93 (by decide) ?_
  refine lv_iconst (v := 5) hx hb dX6_init_95 (by decide) ?_
  refine newII hx hb hts hown m_t846 m_t92 hN hP hD hS hA 5 (by decide) (by decide) (by decide) (Nat.le_of_ble_eq_true rfl) (Nat.le_of_ble_eq_true rfl) (Nat.le_of_ble_eq_true rfl) (Nat.le_of_ble_eq_true rfl) dX6_init_96 (fun q_13 r_14 H hP hD hS => ?_)
  have hP : va_P G CL [(qm, .inr (5, [.ref q_1, .ref q_2, .ref q_3, .ref q_4, .ref q_6, .ref q_7, .ref q_8, .ref q_9, .int 0, .ref q_10, .int 0, .ref q_11, .int 0, .null, .null, .int 0, .int 0, .int 0, .null, .null, .int 0, .int 0, .int 0, .long 0, .int 0, .null, .int 0, .int 0, .int 0, .null, .null, .null, .null, .null, .int 0])), (q_1, .inl (cy 0, 8, .inl (fun _ => 0))), (q_2, .inl (cy 0, 8, .inl (fun _ => 0))), (q_3, .inl (cy 0, 8, .inl (fun _ => 0))), (q_4, .inl (cy 4, 8, .inr (.inr (.inr (.inr (fun i => if i < 8 then some (r_5 i) else none)))))), (r_5 0, .inl (cy 1, 40, .inr (.inl (fun _ => 0)))), (r_5 1, .inl (cy 1, 40, .inr (.inl (fun _ => 0)))), (r_5 2, .inl (cy 1, 40, .inr (.inl (fun _ => 0)))), (r_5 3, .inl (cy 1, 40, .inr (.inl (fun _ => 0)))), (r_5 4, .inl (cy 1, 40, .inr (.inl (fun _ => 0)))), (r_5 5, .inl (cy 1, 40, .inr (.inl (fun _ => 0)))), (r_5 6, .inl (cy 1, 40, .inr (.inl (fun _ => 0)))), (r_5 7, .inl (cy 1, 40, .inr (.inl (fun _ => 0)))), (q_6, .inl (cy 1, 40, .inr (.inl (fun _ => 0)))), (q_7, .inl (cy 0, 8, .inl (fun _ => 0))), (q_8, .inl (cy 0, 8, .inl (fun _ => 0))), (q_9, .inl (cy 0, 250, .inl (fun _ => 0))), (q_10, .inl (cy 0, 8, .inl (fun _ => 0))), (q_11, .inl (cy 3, 8, .inr (.inr (.inr (.inr (fun i => if i < 8 then some (r_12 i) else none)))))), (r_12 0, .inl (cy 0, 4, .inl (fun _ => 0))), (r_12 1, .inl (cy 0, 4, .inl (fun _ => 0))), (r_12 2, .inl (cy 0, 4, .inl (fun _ => 0))), (r_12 3, .inl (cy 0, 4, .inl (fun _ => 0))), (r_12 4, .inl (cy 0, 4, .inl (fun _ => 0))), (r_12 5, .inl (cy 0, 4, .inl (fun _ => 0))), (r_12 6, .inl (cy 0, 4, .inl (fun _ => 0))), (r_12 7, .inl (cy 0, 4, .inl (fun _ => 0))), (q_13, .inl (cy 3, 8, .inr (.inr (.inr (.inr (fun i => if i < 8 then some (r_14 i) else none)))))), (r_14 0, .inl (cy 0, 5, .inl (fun _ => 0))), (r_14 1, .inl (cy 0, 5, .inl (fun _ => 0))), (r_14 2, .inl (cy 0, 5, .inl (fun _ => 0))), (r_14 3, .inl (cy 0, 5, .inl (fun _ => 0))), (r_14 4, .inl (cy 0, 5, .inl (fun _ => 0))), (r_14 5, .inl (cy 0, 5, .inl (fun _ => 0))), (r_14 6, .inl (cy 0, 5, .inl (fun _ => 0))), (r_14 7, .inl (cy 0, 5, .inl (fun _ => 0)))] H := hP
  have hD : va_D A [(qm, .inr (5, [.ref q_1, .ref q_2, .ref q_3, .ref q_4, .ref q_6, .ref q_7, .ref q_8, .ref q_9, .int 0, .ref q_10, .int 0, .ref q_11, .int 0, .null, .null, .int 0, .int 0, .int 0, .null, .null, .int 0, .int 0, .int 0, .long 0, .int 0, .null, .int 0, .int 0, .int 0, .null, .null, .null, .null, .null, .int 0])), (q_1, .inl (cy 0, 8, .inl (fun _ => 0))), (q_2, .inl (cy 0, 8, .inl (fun _ => 0))), (q_3, .inl (cy 0, 8, .inl (fun _ => 0))), (q_4, .inl (cy 4, 8, .inr (.inr (.inr (.inr (fun i => if i < 8 then some (r_5 i) else none)))))), (r_5 0, .inl (cy 1, 40, .inr (.inl (fun _ => 0)))), (r_5 1, .inl (cy 1, 40, .inr (.inl (fun _ => 0)))), (r_5 2, .inl (cy 1, 40, .inr (.inl (fun _ => 0)))), (r_5 3, .inl (cy 1, 40, .inr (.inl (fun _ => 0)))), (r_5 4, .inl (cy 1, 40, .inr (.inl (fun _ => 0)))), (r_5 5, .inl (cy 1, 40, .inr (.inl (fun _ => 0)))), (r_5 6, .inl (cy 1, 40, .inr (.inl (fun _ => 0)))), (r_5 7, .inl (cy 1, 40, .inr (.inl (fun _ => 0)))), (q_6, .inl (cy 1, 40, .inr (.inl (fun _ => 0)))), (q_7, .inl (cy 0, 8, .inl (fun _ => 0))), (q_8, .inl (cy 0, 8, .inl (fun _ => 0))), (q_9, .inl (cy 0, 250, .inl (fun _ => 0))), (q_10, .inl (cy 0, 8, .inl (fun _ => 0))), (q_11, .inl (cy 3, 8, .inr (.inr (.inr (.inr (fun i => if i < 8 then some (r_12 i) else none)))))), (r_12 0, .inl (cy 0, 4, .inl (fun _ => 0))), (r_12 1, .inl (cy 0, 4, .inl (fun _ => 0))), (r_12 2, .inl (cy 0, 4, .inl (fun _ => 0))), (r_12 3, .inl (cy 0, 4, .inl (fun _ => 0))), (r_12 4, .inl (cy 0, 4, .inl (fun _ => 0))), (r_12 5, .inl (cy 0, 4, .inl (fun _ => 0))), (r_12 6, .inl (cy 0, 4, .inl (fun _ => 0))), (r_12 7, .inl (cy 0, 4, .inl (fun _ => 0))), (q_13, .inl (cy 3, 8, .inr (.inr (.inr (.inr (fun i => if i < 8 then some (r_14 i) else none)))))), (r_14 0, .inl (cy 0, 5, .inl (fun _ => 0))), (r_14 1, .inl (cy 0, 5, .inl (fun _ => 0))), (r_14 2, .inl (cy 0, 5, .inl (fun _ => 0))), (r_14 3, .inl (cy 0, 5, .inl (fun _ => 0))), (r_14 4, .inl (cy 0, 5, .inl (fun _ => 0))), (r_14 5, .inl (cy 0, 5, .inl (fun _ => 0))), (r_14 6, .inl (cy 0, 5, .inl (fun _ => 0))), (r_14 7, .inl (cy 0, 5, .inl (fun _ => 0)))] := hD
  refine W.widen (k := 35) (n := 754) (Nat.le_of_ble_eq_true rfl) (Nat.le_of_ble_eq_true rfl) ?_
  refine va_putF (D := G) (ci := 5) (v := .ref q_13) (ty := (.array (.array .int))) (C := RX6) (T := TX6) (N := 35) hx hb hts iX_X6 tyX6 tyX6_ok nmX6 hown hK hP hD hS 0 rfl rfl 13 (by decide) (hts _ m_t863) (fun _ h9 => h9) rfl hin rfl (by decide +kernel) rfl rfl (Nat.le_of_ble_eq_true rfl) dX6_init_100 (fun H locs hP hD hS => ?_)
  have hP : va_P G CL [(qm, .inr (5, [.ref q_1, .ref q_2, .ref q_3, .ref q_4, .ref q_6, .ref q_7, .ref q_8, .ref q_9, .int 0, .ref q_10, .int 0, .ref q_11, .int 0, .ref q_13, .null, .int 0, .int 0, .int 0, .null, .null, .int 0, .int 0, .int 0, .long 0, .int 0, .null, .int 0, .int 0, .int 0, .null, .null, .null, .null, .null, .int 0])), (q_1, .inl (cy 0, 8, .inl (fun _ => 0))), (q_2, .inl (cy 0, 8, .inl (fun _ => 0))), (q_3, .inl (cy 0, 8, .inl (fun _ => 0))), (q_4, .inl (cy 4, 8, .inr (.inr (.inr (.inr (fun i => if i < 8 then some (r_5 i) else none)))))), (r_5 0, .inl (cy 1, 40, .inr (.inl (fun _ => 0)))), (r_5 1, .inl (cy 1, 40, .inr (.inl (fun _ => 0)))), (r_5 2, .inl (cy 1, 40, .inr (.inl (fun _ => 0)))), (r_5 3, .inl (cy 1, 40, .inr (.inl (fun _ => 0)))), (r_5 4, .inl (cy 1, 40, .inr (.inl (fun _ => 0)))), (r_5 5, .inl (cy 1, 40, .inr (.inl (fun _ => 0)))), (r_5 6, .inl (cy 1, 40, .inr (.inl (fun _ => 0)))), (r_5 7, .inl (cy 1, 40, .inr (.inl (fun _ => 0)))), (q_6, .inl (cy 1, 40, .inr (.inl (fun _ => 0)))), (q_7, .inl (cy 0, 8, .inl (fun _ => 0))), (q_8, .inl (cy 0, 8, .inl (fun _ => 0))), (q_9, .inl (cy 0, 250, .inl (fun _ => 0))), (q_10, .inl (cy 0, 8, .inl (fun _ => 0))), (q_11, .inl (cy 3, 8, .inr (.inr (.inr (.inr (fun i => if i < 8 then some (r_12 i) else none)))))), (r_12 0, .inl (cy 0, 4, .inl (fun _ => 0))), (r_12 1, .inl (cy 0, 4, .inl (fun _ => 0))), (r_12 2, .inl (cy 0, 4, .inl (fun _ => 0))), (r_12 3, .inl (cy 0, 4, .inl (fun _ => 0))), (r_12 4, .inl (cy 0, 4, .inl (fun _ => 0))), (r_12 5, .inl (cy 0, 4, .inl (fun _ => 0))), (r_12 6, .inl (cy 0, 4, .inl (fun _ => 0))), (r_12 7, .inl (cy 0, 4, .inl (fun _ => 0))), (q_13, .inl (cy 3, 8, .inr (.inr (.inr (.inr (fun i => if i < 8 then some (r_14 i) else none)))))), (r_14 0, .inl (cy 0, 5, .inl (fun _ => 0))), (r_14 1, .inl (cy 0, 5, .inl (fun _ => 0))), (r_14 2, .inl (cy 0, 5, .inl (fun _ => 0))), (r_14 3, .inl (cy 0, 5, .inl (fun _ => 0))), (r_14 4, .inl (cy 0, 5, .inl (fun _ => 0))), (r_14 5, .inl (cy 0, 5, .inl (fun _ => 0))), (r_14 6, .inl (cy 0, 5, .inl (fun _ => 0))), (r_14 7, .inl (cy 0, 5, .inl (fun _ => 0)))] H := hP
  have hD : va_D A [(qm, .inr (5, [.ref q_1, .ref q_2, .ref q_3, .ref q_4, .ref q_6, .ref q_7, .ref q_8, .ref q_9, .int 0, .ref q_10, .int 0, .ref q_11, .int 0, .ref q_13, .null, .int 0, .int 0, .int 0, .null, .null, .int 0, .int 0, .int 0, .long 0, .int 0, .null, .int 0, .int 0, .int 0, .null, .null, .null, .null, .null, .int 0])), (q_1, .inl (cy 0, 8, .inl (fun _ => 0))), (q_2, .inl (cy 0, 8, .inl (fun _ => 0))), (q_3, .inl (cy 0, 8, .inl (fun _ => 0))), (q_4, .inl (cy 4, 8, .inr (.inr (.inr (.inr (fun i => if i < 8 then some (r_5 i) else none)))))), (r_5 0, .inl (cy 1, 40, .inr (.inl (fun _ => 0)))), (r_5 1, .inl (cy 1, 40, .inr (.inl (fun _ => 0)))), (r_5 2, .inl (cy 1, 40, .inr (.inl (fun _ => 0)))), (r_5 3, .inl (cy 1, 40, .inr (.inl (fun _ => 0)))), (r_5 4, .inl (cy 1, 40, .inr (.inl (fun _ => 0)))), (r_5 5, .inl (cy 1, 40, .inr (.inl (fun _ => 0)))), (r_5 6, .inl (cy 1, 40, .inr (.inl (fun _ => 0)))), (r_5 7, .inl (cy 1, 40, .inr (.inl (fun _ => 0)))), (q_6, .inl (cy 1, 40, .inr (.inl (fun _ => 0)))), (q_7, .inl (cy 0, 8, .inl (fun _ => 0))), (q_8, .inl (cy 0, 8, .inl (fun _ => 0))), (q_9, .inl (cy 0, 250, .inl (fun _ => 0))), (q_10, .inl (cy 0, 8, .inl (fun _ => 0))), (q_11, .inl (cy 3, 8, .inr (.inr (.inr (.inr (fun i => if i < 8 then some (r_12 i) else none)))))), (r_12 0, .inl (cy 0, 4, .inl (fun _ => 0))), (r_12 1, .inl (cy 0, 4, .inl (fun _ => 0))), (r_12 2, .inl (cy 0, 4, .inl (fun _ => 0))), (r_12 3, .inl (cy 0, 4, .inl (fun _ => 0))), (r_12 4, .inl (cy 0, 4, .inl (fun _ => 0))), (r_12 5, .inl (cy 0, 4, .inl (fun _ => 0))), (r_12 6, .inl (cy 0, 4, .inl (fun _ => 0))), (r_12 7, .inl (cy 0, 4, .inl (fun _ => 0))), (q_13, .inl (cy 3, 8, .inr (.inr (.inr (.inr (fun i => if i < 8 then some (r_14 i) else none)))))), (r_14 0, .inl (cy 0, 5, .inl (fun _ => 0))), (r_14 1, .inl (cy 0, 5, .inl (fun _ => 0))), (r_14 2, .inl (cy 0, 5, .inl (fun _ => 0))), (r_14 3, .inl (cy 0, 5, .inl (fun _ => 0))), (r_14 4, .inl (cy 0, 5, .inl (fun _ => 0))), (r_14 5, .inl (cy 0, 5, .inl (fun _ => 0))), (r_14 6, .inl (cy 0, 5, .inl (fun _ => 0))), (r_14 7, .inl (cy 0, 5, .inl (fun _ => 0)))] := hD
  refine lv_aload_n hx hb dX6_init_103 rfl (lv_at hl 0 rfl) ?_
  refine lv_bipush (v := 8) hx hb dX6_init_104 (by decide) ?_
  refine lv_bipush (v := 8) hx hb dX6_init_106 (by decide) ?_
  refine newII hx hb hts hown m_t846 m_t92 hN hP hD hS hA 8 (by decide) (by decide) (by decide) (Nat.le_of_ble_eq_true rfl) (Nat.le_of_ble_eq_true rfl) (Nat.le_of_ble_eq_true rfl) (Nat.le_of_ble_eq_true rfl) dX6_init_108 (fun q_15 r_16 H hP hD hS => ?_)
  have hP : va_P G CL [(qm, .inr (5, [.ref q_1, .ref q_2, .ref q_3, .ref q_4, .ref q_6, .ref q_7, .ref q_8, .ref q_9, .int 0, .ref q_10, .int 0, .ref q_11, .int 0, .ref q_13, .null, .int 0, .int 0, .int 0, .null, .null, .int 0, .int 0, .int 0, .long 0, .int 0, .null, .int 0, .int 0, .int 0, .null, .null, .null, .null, .null, .int 0])), (q_1, .inl (cy 0, 8, .inl (fun _ => 0))), (q_2, .inl (cy 0, 8, .inl (fun _ => 0))), (q_3, .inl (cy 0, 8, .inl (fun _ => 0))), (q_4, .inl (cy 4, 8, .inr (.inr (.inr (.inr (fun i => if i < 8 then some (r_5 i) else none)))))), (r_5 0, .inl (cy 1, 40, .inr (.inl (fun _ => 0)))), (r_5 1, .inl (cy 1, 40, .inr (.inl (fun _ => 0)))), (r_5 2, .inl (cy 1, 40, .inr (.inl (fun _ => 0)))), (r_5 3, .inl (cy 1, 40, .inr (.inl (fun _ => 0)))), (r_5 4, .inl (cy 1, 40, .inr (.inl (fun _ => 0)))), (r_5 5, .inl (cy 1, 40, .inr (.inl (fun _ => 0)))), (r_5 6, .inl (cy 1, 40, .inr (.inl (fun _ => 0)))), (r_5 7, .inl (cy 1, 40, .inr (.inl (fun _ => 0)))), (q_6, .inl (cy 1, 40, .inr (.inl (fun _ => 0)))), (q_7, .inl (cy 0, 8, .inl (fun _ => 0))), (q_8, .inl (cy 0, 8, .inl (fun _ => 0))), (q_9, .inl (cy 0, 250, .inl (fun _ => 0))), (q_10, .inl (cy 0, 8, .inl (fun _ => 0))), (q_11, .inl (cy 3, 8, .inr (.inr (.inr (.inr (fun i => if i < 8 then some (r_12 i) else none)))))), (r_12 0, .inl (cy 0, 4, .inl (fun _ => 0))), (r_12 1, .inl (cy 0, 4, .inl (fun _ => 0))), (r_12 2, .inl (cy 0, 4, .inl (fun _ => 0))), (r_12 3, .inl (cy 0, 4, .inl (fun _ => 0))), (r_12 4, .inl (cy 0, 4, .inl (fun _ => 0))), (r_12 5, .inl (cy 0, 4, .inl (fun _ => 0))), (r_12 6, .inl (cy 0, 4, .inl (fun _ => 0))), (r_12 7, .inl (cy 0, 4, .inl (fun _ => 0))), (q_13, .inl (cy 3, 8, .inr (.inr (.inr (.inr (fun i => if i < 8 then some (r_14 i) else none)))))), (r_14 0, .inl (cy 0, 5, .inl (fun _ => 0))), (r_14 1, .inl (cy 0, 5, .inl (fun _ => 0))), (r_14 2, .inl (cy 0, 5, .inl (fun _ => 0))), (r_14 3, .inl (cy 0, 5, .inl (fun _ => 0))), (r_14 4, .inl (cy 0, 5, .inl (fun _ => 0))), (r_14 5, .inl (cy 0, 5, .inl (fun _ => 0))), (r_14 6, .inl (cy 0, 5, .inl (fun _ => 0))), (r_14 7, .inl (cy 0, 5, .inl (fun _ => 0))), (q_15, .inl (cy 3, 8, .inr (.inr (.inr (.inr (fun i => if i < 8 then some (r_16 i) else none)))))), (r_16 0, .inl (cy 0, 8, .inl (fun _ => 0))), (r_16 1, .inl (cy 0, 8, .inl (fun _ => 0))), (r_16 2, .inl (cy 0, 8, .inl (fun _ => 0))), (r_16 3, .inl (cy 0, 8, .inl (fun _ => 0))), (r_16 4, .inl (cy 0, 8, .inl (fun _ => 0))), (r_16 5, .inl (cy 0, 8, .inl (fun _ => 0))), (r_16 6, .inl (cy 0, 8, .inl (fun _ => 0))), (r_16 7, .inl (cy 0, 8, .inl (fun _ => 0)))] H := hP
  have hD : va_D A [(qm, .inr (5, [.ref q_1, .ref q_2, .ref q_3, .ref q_4, .ref q_6, .ref q_7, .ref q_8, .ref q_9, .int 0, .ref q_10, .int 0, .ref q_11, .int 0, .ref q_13, .null, .int 0, .int 0, .int 0, .null, .null, .int 0, .int 0, .int 0, .long 0, .int 0, .null, .int 0, .int 0, .int 0, .null, .null, .null, .null, .null, .int 0])), (q_1, .inl (cy 0, 8, .inl (fun _ => 0))), (q_2, .inl (cy 0, 8, .inl (fun _ => 0))), (q_3, .inl (cy 0, 8, .inl (fun _ => 0))), (q_4, .inl (cy 4, 8, .inr (.inr (.inr (.inr (fun i => if i < 8 then some (r_5 i) else none)))))), (r_5 0, .inl (cy 1, 40, .inr (.inl (fun _ => 0)))), (r_5 1, .inl (cy 1, 40, .inr (.inl (fun _ => 0)))), (r_5 2, .inl (cy 1, 40, .inr (.inl (fun _ => 0)))), (r_5 3, .inl (cy 1, 40, .inr (.inl (fun _ => 0)))), (r_5 4, .inl (cy 1, 40, .inr (.inl (fun _ => 0)))), (r_5 5, .inl (cy 1, 40, .inr (.inl (fun _ => 0)))), (r_5 6, .inl (cy 1, 40, .inr (.inl (fun _ => 0)))), (r_5 7, .inl (cy 1, 40, .inr (.inl (fun _ => 0)))), (q_6, .inl (cy 1, 40, .inr (.inl (fun _ => 0)))), (q_7, .inl (cy 0, 8, .inl (fun _ => 0))), (q_8, .inl (cy 0, 8, .inl (fun _ => 0))), (q_9, .inl (cy 0, 250, .inl (fun _ => 0))), (q_10, .inl (cy 0, 8, .inl (fun _ => 0))), (q_11, .inl (cy 3, 8, .inr (.inr (.inr (.inr (fun i => if i < 8 then some (r_12 i) else none)))))), (r_12 0, .inl (cy 0, 4, .inl (fun _ => 0))), (r_12 1, .inl (cy 0, 4, .inl (fun _ => 0))), (r_12 2, .inl (cy 0, 4, .inl (fun _ => 0))), (r_12 3, .inl (cy 0, 4, .inl (fun _ => 0))), (r_12 4, .inl (cy 0, 4, .inl (fun _ => 0))), (r_12 5, .inl (cy 0, 4, .inl (fun _ => 0))), (r_12 6, .inl (cy 0, 4, .inl (fun _ => 0))), (r_12 7, .inl (cy 0, 4, .inl (fun _ => 0))), (q_13, .inl (cy 3, 8, .inr (.inr (.inr (.inr (fun i => if i < 8 then some (r_14 i) else none)))))), (r_14 0, .inl (cy 0, 5, .inl (fun _ => 0))), (r_14 1, .inl (cy 0, 5, .inl (fun _ => 0))), (r_14 2, .inl (cy 0, 5, .inl (fun _ => 0))), (r_14 3, .inl (cy 0, 5, .inl (fun _ => 0))), (r_14 4, .inl (cy 0, 5, .inl (fun _ => 0))), (r_14 5, .inl (cy 0, 5, .inl (fun _ => 0))), (r_14 6, .inl (cy 0, 5, .inl (fun _ => 0))), (r_14 7, .inl (cy 0, 5, .inl (fun _ => 0))), (q_15, .inl (cy 3, 8, .inr (.inr (.inr (.inr (fun i => if i < 8 then some (r_16 i) else none)))))), (r_16 0, .inl (cy 0, 8, .inl (fun _ => 0))), (r_16 1, .inl (cy 0, 8, .inl (fun _ => 0))), (r_16 2, .inl (cy 0, 8, .inl (fun _ => 0))), (r_16 3, .inl (cy 0, 8, .inl (fun _ => 0))), (r_16 4, .inl (cy 0, 8, .inl (fun _ => 0))), (r_16 5, .inl (cy 0, 8, .inl (fun _ => 0))), (r_16 6, .inl (cy 0, 8, .inl (fun _ => 0))), (r_16 7, .inl (cy 0, 8, .inl (fun _ => 0)))] := hD
  refine W.widen (k := 44) (n := 826) (Nat.le_of_ble_eq_true rfl) (Nat.le_of_ble_eq_true rfl) ?_
  refine va_putF (D := G) (ci := 5) (v := .ref q_15) (ty := (.array (.array .int))) (C := RX6) (T := TX6) (N := 35) hx hb hts iX_X6 tyX6 tyX6_ok nmX6 hown hK hP hD hS 0 rfl rfl 14 (by decide) (hts _ m_t864) (fun _ h9 => h9) rfl hin rfl (by decide +kernel) rfl rfl (Nat.le_of_ble_eq_true rfl) dX6_init_112 (fun H locs hP hD hS => ?_)
  have hP : va_P G CL [(qm, .inr (5, [.ref q_1, .ref q_2, .ref q_3, .ref q_4, .ref q_6, .ref q_7, .ref q_8, .ref q_9, .int 0, .ref q_10, .int 0, .ref q_11, .int 0, .ref q_13, .ref q_15, .int 0, .int 0, .int 0, .null, .null, .int 0, .int 0, .int 0, .long 0, .int 0, .null, .int 0, .int 0, .int 0, .null, .null, .null, .null, .null, .int 0])), (q_1, .inl (cy 0, 8, .inl (fun _ => 0))), (q_2, .inl (cy 0, 8, .inl (fun _ => 0))), (q_3, .inl (cy 0, 8, .inl (fun _ => 0))), (q_4, .inl (cy 4, 8, .inr (.inr (.inr (.inr (fun i => if i < 8 then some (r_5 i) else none)))))), (r_5 0, .inl (cy 1, 40, .inr (.inl (fun _ => 0)))), (r_5 1, .inl (cy 1, 40, .inr (.inl (fun _ => 0)))), (r_5 2, .inl (cy 1, 40, .inr (.inl (fun _ => 0)))), (r_5 3, .inl (cy 1, 40, .inr (.inl (fun _ => 0)))), (r_5 4, .inl (cy 1, 40, .inr (.inl (fun _ => 0)))), (r_5 5, .inl (cy 1, 40, .inr (.inl (fun _ => 0)))), (r_5 6, .inl (cy 1, 40, .inr (.inl (fun _ => 0)))), (r_5 7, .inl (cy 1, 40, .inr (.inl (fun _ => 0)))), (q_6, .inl (cy 1, 40, .inr (.inl (fun _ => 0)))), (q_7, .inl (cy 0, 8, .inl (fun _ => 0))), (q_8, .inl (cy 0, 8, .inl (fun _ => 0))), (q_9, .inl (cy 0, 250, .inl (fun _ => 0))), (q_10, .inl (cy 0, 8, .inl (fun _ => 0))), (q_11, .inl (cy 3, 8, .inr (.inr (.inr (.inr (fun i => if i < 8 then some (r_12 i) else none)))))), (r_12 0, .inl (cy 0, 4, .inl (fun _ => 0))), (r_12 1, .inl (cy 0, 4, .inl (fun _ => 0))), (r_12 2, .inl (cy 0, 4, .inl (fun _ => 0))), (r_12 3, .inl (cy 0, 4, .inl (fun _ => 0))), (r_12 4, .inl (cy 0, 4, .inl (fun _ => 0))), (r_12 5, .inl (cy 0, 4, .inl (fun _ => 0))), (r_12 6, .inl (cy 0, 4, .inl (fun _ => 0))), (r_12 7, .inl (cy 0, 4, .inl (fun _ => 0))), (q_13, .inl (cy 3, 8, .inr (.inr (.inr (.inr (fun i => if i < 8 then some (r_14 i) else none)))))), (r_14 0, .inl (cy 0, 5, .inl (fun _ => 0))), (r_14 1, .inl (cy 0, 5, .inl (fun _ => 0))), (r_14 2, .inl (cy 0, 5, .inl (fun _ => 0))), (r_14 3, .inl (cy 0, 5, .inl (fun _ => 0))), (r_14 4, .inl (cy 0, 5, .inl (fun _ => 0))), (r_14 5, .inl (cy 0, 5, .inl (fun _ => 0))), (r_14 6, .inl (cy 0, 5, .inl (fun _ => 0))), (r_14 7, .inl (cy 0, 5, .inl (fun _ => 0))), (q_15, .inl (cy 3, 8, .inr (.inr (.inr (.inr (fun i => if i < 8 then some (r_16 i) else none)))))), (r_16 0, .inl (cy 0, 8, .inl (fun _ => 0))), (r_16 1, .inl (cy 0, 8, .inl (fun _ => 0))), (r_16 2, .inl (cy 0, 8, .inl (fun _ => 0))), (r_16 3, .inl (cy 0, 8, .inl (fun _ => 0))), (r_16 4, .inl (cy 0, 8, .inl (fun _ => 0))), (r_16 5, .inl (cy 0, 8, .inl (fun _ => 0))), (r_16 6, .inl (cy 0, 8, .inl (fun _ => 0))), (r_16 7, .inl (cy 0, 8, .inl (fun _ => 0)))] H := hP
  have hD : va_D A [(qm, .inr (5, [.ref q_1, .ref q_2, .ref q_3, .ref q_4, .ref q_6, .ref q_7, .ref q_8, .ref q_9, .int 0, .ref q_10, .int 0, .ref q_11, .int 0, .ref q_13, .ref q_15, .int 0, .int 0, .int 0, .null, .null, .int 0, .int 0, .int 0, .long 0, .int 0, .null, .int 0, .int 0, .int 0, .null, .null, .null, .null, .null, .int 0])), (q_1, .inl (cy 0, 8, .inl (fun _ => 0))), (q_2, .inl (cy 0, 8, .inl (fun _ => 0))), (q_3, .inl (cy 0, 8, .inl (fun _ => 0))), (q_4, .inl (cy 4, 8, .inr (.inr (.inr (.inr (fun i => if i < 8 then some (r_5 i) else none)))))), (r_5 0, .inl (cy 1, 40, .inr (.inl (fun _ => 0)))), (r_5 1, .inl (cy 1, 40, .inr (.inl (fun _ => 0)))), (r_5 2, .inl (cy 1, 40, .inr (.inl (fun _ => 0)))), (r_5 3, .inl (cy 1, 40, .inr (.inl (fun _ => 0)))), (r_5 4, .inl (cy 1, 40, .inr (.inl (fun _ => 0)))), (r_5 5, .inl (cy 1, 40, .inr (.inl (fun _ => 0)))), (r_5 6, .inl (cy 1, 40, .inr (.inl (fun _ => 0)))), (r_5 7, .inl (cy 1, 40, .inr (.inl (fun _ => 0)))), (q_6, .inl (cy 1, 40, .inr (.inl (fun _ => 0)))), (q_7, .inl (cy 0, 8, .inl (fun _ => 0))), (q_8, .inl (cy 0, 8, .inl (fun _ => 0))), (q_9, .inl (cy 0, 250, .inl (fun _ => 0))), (q_10, .inl (cy 0, 8, .inl (fun _ => 0))), (q_11, .inl (cy 3, 8, .inr (.inr (.inr (.inr (fun i => if i < 8 then some (r_12 i) else none)))))), (r_12 0, .inl (cy 0, 4, .inl (fun _ => 0))), (r_12 1, .inl (cy 0, 4, .inl (fun _ => 0))), (r_12 2, .inl (cy 0, 4, .inl (fun _ => 0))), (r_12 3, .inl (cy 0, 4, .inl (fun _ => 0))), (r_12 4, .inl (cy 0, 4, .inl (fun _ => 0))), (r_12 5, .inl (cy 0, 4, .inl (fun _ => 0))), (r_12 6, .inl (cy 0, 4, .inl (fun _ => 0))), (r_12 7, .inl (cy 0, 4, .inl (fun _ => 0))), (q_13, .inl (cy 3, 8, .inr (.inr (.inr (.inr (fun i => if i < 8 then some (r_14 i) else none)))))), (r_14 0, .inl (cy 0, 5, .inl (fun _ => 0))), (r_14 1, .inl (cy 0, 5, .inl (fun _ => 0))), (r_14 2, .inl (cy 0, 5, .inl (fun _ => 0))), (r_14 3, .inl (cy 0, 5, .inl (fun _ => 0))), (r_14 4, .inl (cy 0, 5, .inl (fun _ => 0))), (r_14 5, .inl (cy 0, 5, .inl (fun _ => 0))), (r_14 6, .inl (cy 0, 5, .inl (fun _ => 0))), (r_14 7, .inl (cy 0, 5, .inl (fun _ => 0))), (q_15, .inl (cy 3, 8, .inr (.inr (.inr (.inr (fun i => if i < 8 then some (r_16 i) else none)))))), (r_16 0, .inl (cy 0, 8, .inl (fun _ => 0))), (r_16 1, .inl (cy 0, 8, .inl (fun _ => 0))), (r_16 2, .inl (cy 0, 8, .inl (fun _ => 0))), (r_16 3, .inl (cy 0, 8, .inl (fun _ => 0))), (r_16 4, .inl (cy 0, 8, .inl (fun _ => 0))), (r_16 5, .inl (cy 0, 8, .inl (fun _ => 0))), (r_16 6, .inl (cy 0, 8, .inl (fun _ => 0))), (r_16 7, .inl (cy 0, 8, .inl (fun _ => 0)))] := hD
  refine lv_aload_n hx hb dX6_init_115 rfl (lv_at hl 0 rfl) ?_
  refine lv_iconst (v := 1) hx hb dX6_init_116 (by decide) ?_
  refine va_put (D := G) (ci := 5) (v := .int 1) (ty := .int) (C := RX6) (T := TX6) (N := 35) hx hb hts iX_X6 tyX6 tyX6_ok nmX6 hown hK hP hD hS 0 rfl rfl 17 (by decide) (hts _ m_t867) (fun _ h9 => h9) rfl (by decide +kernel) rfl rfl (Nat.le_of_ble_eq_true rfl) dX6_init_117 (fun H locs hP hD hS => ?_)
  have hP : va_P G CL [(qm, .inr (5, [.ref q_1, .ref q_2, .ref q_3, .ref q_4, .ref q_6, .ref q_7, .ref q_8, .ref q_9, .int 0, .ref q_10, .int 0, .ref q_11, .int 0, .ref q_13, .ref q_15, .int 0, .int 0, .int 1, .null, .null, .int 0, .int 0, .int 0, .long 0, .int 0, .null, .int 0, .int 0, .int 0, .null, .null, .null, .null, .null, .int 0])), (q_1, .inl (cy 0, 8, .inl (fun _ => 0))), (q_2, .inl (cy 0, 8, .inl (fun _ => 0))), (q_3, .inl (cy 0, 8, .inl (fun _ => 0))), (q_4, .inl (cy 4, 8, .inr (.inr (.inr (.inr (fun i => if i < 8 then some (r_5 i) else none)))))), (r_5 0, .inl (cy 1, 40, .inr (.inl (fun _ => 0)))), (r_5 1, .inl (cy 1, 40, .inr (.inl (fun _ => 0)))), (r_5 2, .inl (cy 1, 40, .inr (.inl (fun _ => 0)))), (r_5 3, .inl (cy 1, 40, .inr (.inl (fun _ => 0)))), (r_5 4, .inl (cy 1, 40, .inr (.inl (fun _ => 0)))), (r_5 5, .inl (cy 1, 40, .inr (.inl (fun _ => 0)))), (r_5 6, .inl (cy 1, 40, .inr (.inl (fun _ => 0)))), (r_5 7, .inl (cy 1, 40, .inr (.inl (fun _ => 0)))), (q_6, .inl (cy 1, 40, .inr (.inl (fun _ => 0)))), (q_7, .inl (cy 0, 8, .inl (fun _ => 0))), (q_8, .inl (cy 0, 8, .inl (fun _ => 0))), (q_9, .inl (cy 0, 250, .inl (fun _ => 0))), (q_10, .inl (cy 0, 8, .inl (fun _ => 0))), (q_11, .inl (cy 3, 8, .inr (.inr (.inr (.inr (fun i => if i < 8 then some (r_12 i) else none)))))), (r_12 0, .inl (cy 0, 4, .inl (fun _ => 0))), (r_12 1, .inl (cy 0, 4, .inl (fun _ => 0))), (r_12 2, .inl (cy 0, 4, .inl (fun _ => 0))), (r_12 3, .inl (cy 0, 4, .inl (fun _ => 0))), (r_12 4, .inl (cy 0, 4, .inl (fun _ => 0))), (r_12 5, .inl (cy 0, 4, .inl (fun _ => 0))), (r_12 6, .inl (cy 0, 4, .inl (fun _ => 0))), (r_12 7, .inl (cy 0, 4, .inl (fun _ => 0))), (q_13, .inl (cy 3, 8, .inr (.inr (.inr (.inr (fun i => if i < 8 then some (r_14 i) else none)))))), (r_14 0, .inl (cy 0, 5, .inl (fun _ => 0))), (r_14 1, .inl (cy 0, 5, .inl (fun _ => 0))), (r_14 2, .inl (cy 0, 5, .inl (fun _ => 0))), (r_14 3, .inl (cy 0, 5, .inl (fun _ => 0))), (r_14 4, .inl (cy 0, 5, .inl (fun _ => 0))), (r_14 5, .inl (cy 0, 5, .inl (fun _ => 0))), (r_14 6, .inl (cy 0, 5, .inl (fun _ => 0))), (r_14 7, .inl (cy 0, 5, .inl (fun _ => 0))), (q_15, .inl (cy 3, 8, .inr (.inr (.inr (.inr (fun i => if i < 8 then some (r_16 i) else none)))))), (r_16 0, .inl (cy 0, 8, .inl (fun _ => 0))), (r_16 1, .inl (cy 0, 8, .inl (fun _ => 0))), (r_16 2, .inl (cy 0, 8, .inl (fun _ => 0))), (r_16 3, .inl (cy 0, 8, .inl (fun _ => 0))), (r_16 4, .inl (cy 0, 8, .inl (fun _ => 0))), (r_16 5, .inl (cy 0, 8, .inl (fun _ => 0))), (r_16 6, .inl (cy 0, 8, .inl (fun _ => 0))), (r_16 7, .inl (cy 0, 8, .inl (fun _ => 0)))] H := hP
  have hD : va_D A [(qm, .inr (5, [.ref q_1, .ref q_2, .ref q_3, .ref q_4, .ref q_6, .ref q_7, .ref q_8, .ref q_9, .int 0, .ref q_10, .int 0, .ref q_11, .int 0, .ref q_13, .ref q_15, .int 0, .int 0, .int 1, .null, .null, .int 0, .int 0, .int 0, .long 0, .int 0, .null, .int 0, .int 0, .int 0, .null, .null, .null, .null, .null, .int 0])), (q_1, .inl (cy 0, 8, .inl (fun _ => 0))), (q_2, .inl (cy 0, 8, .inl (fun _ => 0))), (q_3, .inl (cy 0, 8, .inl (fun _ => 0))), (q_4, .inl (cy 4, 8, .inr (.inr (.inr (.inr (fun i => if i < 8 then some (r_5 i) else none)))))), (r_5 0, .inl (cy 1, 40, .inr (.inl (fun _ => 0)))), (r_5 1, .inl (cy 1, 40, .inr (.inl (fun _ => 0)))), (r_5 2, .inl (cy 1, 40, .inr (.inl (fun _ => 0)))), (r_5 3, .inl (cy 1, 40, .inr (.inl (fun _ => 0)))), (r_5 4, .inl (cy 1, 40, .inr (.inl (fun _ => 0)))), (r_5 5, .inl (cy 1, 40, .inr (.inl (fun _ => 0)))), (r_5 6, .inl (cy 1, 40, .inr (.inl (fun _ => 0)))), (r_5 7, .inl (cy 1, 40, .inr (.inl (fun _ => 0)))), (q_6, .inl (cy 1, 40, .inr (.inl (fun _ => 0)))), (q_7, .inl (cy 0, 8, .inl (fun _ => 0))), (q_8, .inl (cy 0, 8, .inl (fun _ => 0))), (q_9, .inl (cy 0, 250, .inl (fun _ => 0))), (q_10, .inl (cy 0, 8, .inl (fun _ => 0))), (q_11, .inl (cy 3, 8, .inr (.inr (.inr (.inr (fun i => if i < 8 then some (r_12 i) else none)))))), (r_12 0, .inl (cy 0, 4, .inl (fun _ => 0))), (r_12 1, .inl (cy 0, 4, .inl (fun _ => 0))), (r_12 2, .inl (cy 0, 4, .inl (fun _ => 0))), (r_12 3, .inl (cy 0, 4, .inl (fun _ => 0))), (r_12 4, .inl (cy 0, 4, .inl (fun _ => 0))), (r_12 5, .inl (cy 0, 4, .inl (fun _ => 0))), (r_12 6, .inl (cy 0, 4, .inl (fun _ => 0))), (r_12 7, .inl (cy 0, 4, .inl (fun _ => 0))), (q_13, .inl (cy 3, 8, .inr (.inr (.inr (.inr (fun i => if i < 8 then some (r_14 i) else none)))))), (r_14 0, .inl (cy 0, 5, .inl (fun _ => 0))), (r_14 1, .inl (cy 0, 5, .inl (fun _ => 0))), (r_14 2, .inl (cy 0, 5, .inl (fun _ => 0))), (r_14 3, .inl (cy 0, 5, .inl (fun _ => 0))), (r_14 4, .inl (cy 0, 5, .inl (fun _ => 0))), (r_14 5, .inl (cy 0, 5, .inl (fun _ => 0))), (r_14 6, .inl (cy 0, 5, .inl (fun _ => 0))), (r_14 7, .inl (cy 0, 5, .inl (fun _ => 0))), (q_15, .inl (cy 3, 8, .inr (.inr (.inr (.inr (fun i => if i < 8 then some (r_16 i) else none)))))), (r_16 0, .inl (cy 0, 8, .inl (fun _ => 0))), (r_16 1, .inl (cy 0, 8, .inl (fun _ => 0))), (r_16 2, .inl (cy 0, 8, .inl (fun _ => 0))), (r_16 3, .inl (cy 0, 8, .inl (fun _ => 0))), (r_16 4, .inl (cy 0, 8, .inl (fun _ => 0))), (r_16 5, .inl (cy 0, 8, .inl (fun _ => 0))), (r_16 6, .inl (cy 0, 8, .inl (fun _ => 0))), (r_16 7, .inl (cy 0, 8, .inl (fun _ => 0)))] := hD
  refine lv_aload_n hx hb dX6_init_120 rfl (lv_at hl 0 rfl) ?_
  refine lv_iconst (v := 3) hx hb dX6_init_121 (by decide) ?_
  refine newI hx hb hts m_t92 hN hP hD hS hA 3 (by decide) (by decide) (Nat.le_of_ble_eq_true rfl) (Nat.le_of_ble_eq_true rfl) (Nat.le_of_ble_eq_true rfl) dX6_init_122 (fun q_17 H hP hD hS => ?_)
  have hP : va_P G CL [(qm, .inr (5, [.ref q_1, .ref q_2, .ref q_3, .ref q_4, .ref q_6, .ref q_7, .ref q_8, .ref q_9, .int 0, .ref q_10, .int 0, .ref q_11, .int 0, .ref q_13, .ref q_15, .int 0, .int 0, .int 1, .null, .null, .int 0, .int 0, .int 0, .long 0, .int 0, .null, .int 0, .int 0, .int 0, .null, .null, .null, .null, .null, .int 0])), (q_1, .inl (cy 0, 8, .inl (fun _ => 0))), (q_2, .inl (cy 0, 8, .inl (fun _ => 0))), (q_3, .inl (cy 0, 8, .inl (fun _ => 0))), (q_4, .inl (cy 4, 8, .inr (.inr (.inr (.inr (fun i => if i < 8 then some (r_5 i) else none)))))), (r_5 0, .inl (cy 1, 40, .inr (.inl (fun _ => 0)))), (r_5 1, .inl (cy 1, 40, .inr (.inl (fun _ => 0)))), (r_5 2, .inl (cy 1, 40, .inr (.inl (fun _ => 0)))), (r_5 3, .inl (cy 1, 40, .inr (.inl (fun _ => 0)))), (r_5 4, .inl (cy 1, 40, .inr (.inl (fun _ => 0)))), (r_5 5, .inl (cy 1, 40, .inr (.inl (fun _ => 0)))), (r_5 6, .inl (cy 1, 40, .inr (.inl (fun _ => 0)))), (r_5 7, .inl (cy 1, 40, .inr (.inl (fun _ => 0)))), (q_6, .inl (cy 1, 40, .inr (.inl (fun _ => 0)))), (q_7, .inl (cy 0, 8, .inl (fun _ => 0))), (q_8, .inl (cy 0, 8, .inl (fun _ => 0))), (q_9, .inl (cy 0, 250, .inl (fun _ => 0))), (q_10, .inl (cy 0, 8, .inl (fun _ => 0))), (q_11, .inl (cy 3, 8, .inr (.inr (.inr (.inr (fun i => if i < 8 then some (r_12 i) else none)))))), (r_12 0, .inl (cy 0, 4, .inl (fun _ => 0))), (r_12 1, .inl (cy 0, 4, .inl (fun _ => 0))), (r_12 2, .inl (cy 0, 4, .inl (fun _ => 0))), (r_12 3, .inl (cy 0, 4, .inl (fun _ => 0))), (r_12 4, .inl (cy 0, 4, .inl (fun _ => 0))), (r_12 5, .inl (cy 0, 4, .inl (fun _ => 0))), (r_12 6, .inl (cy 0, 4, .inl (fun _ => 0))), (r_12 7, .inl (cy 0, 4, .inl (fun _ => 0))), (q_13, .inl (cy 3, 8, .inr (.inr (.inr (.inr (fun i => if i < 8 then some (r_14 i) else none)))))), (r_14 0, .inl (cy 0, 5, .inl (fun _ => 0))), (r_14 1, .inl (cy 0, 5, .inl (fun _ => 0))), (r_14 2, .inl (cy 0, 5, .inl (fun _ => 0))), (r_14 3, .inl (cy 0, 5, .inl (fun _ => 0))), (r_14 4, .inl (cy 0, 5, .inl (fun _ => 0))), (r_14 5, .inl (cy 0, 5, .inl (fun _ => 0))), (r_14 6, .inl (cy 0, 5, .inl (fun _ => 0))), (r_14 7, .inl (cy 0, 5, .inl (fun _ => 0))), (q_15, .inl (cy 3, 8, .inr (.inr (.inr (.inr (fun i => if i < 8 then some (r_16 i) else none)))))), (r_16 0, .inl (cy 0, 8, .inl (fun _ => 0))), (r_16 1, .inl (cy 0, 8, .inl (fun _ => 0))), (r_16 2, .inl (cy 0, 8, .inl (fun _ => 0))), (r_16 3, .inl (cy 0, 8, .inl (fun _ => 0))), (r_16 4, .inl (cy 0, 8, .inl (fun _ => 0))), (r_16 5, .inl (cy 0, 8, .inl (fun _ => 0))), (r_16 6, .inl (cy 0, 8, .inl (fun _ => 0))), (r_16 7, .inl (cy 0, 8, .inl (fun _ => 0))), (q_17, .inl (cy 0, 3, .inl (fun _ => 0)))] H := hP
  have hD : va_D A [(qm, .inr (5, [.ref q_1, .ref q_2, .ref q_3, .ref q_4, .ref q_6, .ref q_7, .ref q_8, .ref q_9, .int 0, .ref q_10, .int 0, .ref q_11, .int 0, .ref q_13, .ref q_15, .int 0, .int 0, .int 1, .null, .null, .int 0, .int 0, .int 0, .long 0, .int 0, .null, .int 0, .int 0, .int 0, .null, .null, .null, .null, .null, .int 0])), (q_1, .inl (cy 0, 8, .inl (fun _ => 0))), (q_2, .inl (cy 0, 8, .inl (fun _ => 0))), (q_3, .inl (cy 0, 8, .inl (fun _ => 0))), (q_4, .inl (cy 4, 8, .inr (.inr (.inr (.inr (fun i => if i < 8 then some (r_5 i) else none)))))), (r_5 0, .inl (cy 1, 40, .inr (.inl (fun _ => 0)))), (r_5 1, .inl (cy 1, 40, .inr (.inl (fun _ => 0)))), (r_5 2, .inl (cy 1, 40, .inr (.inl (fun _ => 0)))), (r_5 3, .inl (cy 1, 40, .inr (.inl (fun _ => 0)))), (r_5 4, .inl (cy 1, 40, .inr (.inl (fun _ => 0)))), (r_5 5, .inl (cy 1, 40, .inr (.inl (fun _ => 0)))), (r_5 6, .inl (cy 1, 40, .inr (.inl (fun _ => 0)))), (r_5 7, .inl (cy 1, 40, .inr (.inl (fun _ => 0)))), (q_6, .inl (cy 1, 40, .inr (.inl (fun _ => 0)))), (q_7, .inl (cy 0, 8, .inl (fun _ => 0))), (q_8, .inl (cy 0, 8, .inl (fun _ => 0))), (q_9, .inl (cy 0, 250, .inl (fun _ => 0))), (q_10, .inl (cy 0, 8, .inl (fun _ => 0))), (q_11, .inl (cy 3, 8, .inr (.inr (.inr (.inr (fun i => if i < 8 then some (r_12 i) else none)))))), (r_12 0, .inl (cy 0, 4, .inl (fun _ => 0))), (r_12 1, .inl (cy 0, 4, .inl (fun _ => 0))), (r_12 2, .inl (cy 0, 4, .inl (fun _ => 0))), (r_12 3, .inl (cy 0, 4, .inl (fun _ => 0))), (r_12 4, .inl (cy 0, 4, .inl (fun _ => 0))), (r_12 5, .inl (cy 0, 4, .inl (fun _ => 0))), (r_12 6, .inl (cy 0, 4, .inl (fun _ => 0))), (r_12 7, .inl (cy 0, 4, .inl (fun _ => 0))), (q_13, .inl (cy 3, 8, .inr (.inr (.inr (.inr (fun i => if i < 8 then some (r_14 i) else none)))))), (r_14 0, .inl (cy 0, 5, .inl (fun _ => 0))), (r_14 1, .inl (cy 0, 5, .inl (fun _ => 0))), (r_14 2, .inl (cy 0, 5, .inl (fun _ => 0))), (r_14 3, .inl (cy 0, 5, .inl (fun _ => 0))), (r_14 4, .inl (cy 0, 5, .inl (fun _ => 0))), (r_14 5, .inl (cy 0, 5, .inl (fun _ => 0))), (r_14 6, .inl (cy 0, 5, .inl (fun _ => 0))), (r_14 7, .inl (cy 0, 5, .inl (fun _ => 0))), (q_15, .inl (cy 3, 8, .inr (.inr (.inr (.inr (fun i => if i < 8 then some (r_16 i) else none)))))), (r_16 0, .inl (cy 0, 8, .inl (fun _ => 0))), (r_16 1, .inl (cy 0, 8, .inl (fun _ => 0))), (r_16 2, .inl (cy 0, 8, .inl (fun _ => 0))), (r_16 3, .inl (cy 0, 8, .inl (fun _ => 0))), (r_16 4, .inl (cy 0, 8, .inl (fun _ => 0))), (r_16 5, .inl (cy 0, 8, .inl (fun _ => 0))), (r_16 6, .inl (cy 0, 8, .inl (fun _ => 0))), (r_16 7, .inl (cy 0, 8, .inl (fun _ => 0))), (q_17, .inl (cy 0, 3, .inl (fun _ => 0)))] := hD
  refine W.widen (k := 45) (n := 829) (Nat.le_of_ble_eq_true rfl) (Nat.le_of_ble_eq_true rfl) ?_
  refine va_putF (D := G) (ci := 5) (v := .ref q_17) (ty := (.array .int)) (C := RX6) (T := TX6) (N := 35) hx hb hts iX_X6 tyX6 tyX6_ok nmX6 hown hK hP hD hS 0 rfl rfl 25 (by decide) (hts _ m_t875) (fun _ h9 => h9) rfl hin rfl (by decide +kernel) rfl rfl (Nat.le_of_ble_eq_true rfl) dX6_init_124 (fun H locs hP hD hS => ?_)
  have hP : va_P G CL [(qm, .inr (5, [.ref q_1, .ref q_2, .ref q_3, .ref q_4, .ref q_6, .ref q_7, .ref q_8, .ref q_9, .int 0, .ref q_10, .int 0, .ref q_11, .int 0, .ref q_13, .ref q_15, .int 0, .int 0, .int 1, .null, .null, .int 0, .int 0, .int 0, .long 0, .int 0, .ref q_17, .int 0, .int 0, .int 0, .null, .null, .null, .null, .null, .int 0])), (q_1, .inl (cy 0, 8, .inl (fun _ => 0))), (q_2, .inl (cy 0, 8, .inl (fun _ => 0))), (q_3, .inl (cy 0, 8, .inl (fun _ => 0))), (q_4, .inl (cy 4, 8, .inr (.inr (.inr (.inr (fun i => if i < 8 then some (r_5 i) else none)))))), (r_5 0, .inl (cy 1, 40, .inr (.inl (fun _ => 0)))), (r_5 1, .inl (cy 1, 40, .inr (.inl (fun _ => 0)))), (r_5 2, .inl (cy 1, 40, .inr (.inl (fun _ => 0)))), (r_5 3, .inl (cy 1, 40, .inr (.inl (fun _ => 0)))), (r_5 4, .inl (cy 1, 40, .inr (.inl (fun _ => 0)))), (r_5 5, .inl (cy 1, 40, .inr (.inl (fun _ => 0)))), (r_5 6, .inl (cy 1, 40, .inr (.inl (fun _ => 0)))), (r_5 7, .inl (cy 1, 40, .inr (.inl (fun _ => 0)))), (q_6, .inl (cy 1, 40, .inr (.inl (fun _ => 0)))), (q_7, .inl (cy 0, 8, .inl (fun _ => 0))), (q_8, .inl (cy 0, 8, .inl (fun _ => 0))), (q_9, .inl (cy 0, 250, .inl (fun _ => 0))), (q_10, .inl (cy 0, 8, .inl (fun _ => 0))), (q_11, .inl (cy 3, 8, .inr (.inr (.inr (.inr (fun i => if i < 8 then some (r_12 i) else none)))))), (r_12 0, .inl (cy 0, 4, .inl (fun _ => 0))), (r_12 1, .inl (cy 0, 4, .inl (fun _ => 0))), (r_12 2, .inl (cy 0, 4, .inl (fun _ => 0))), (r_12 3, .inl (cy 0, 4, .inl (fun _ => 0))), (r_12 4, .inl (cy 0, 4, .inl (fun _ => 0))), (r_12 5, .inl (cy 0, 4, .inl (fun _ => 0))), (r_12 6, .inl (cy 0, 4, .inl (fun _ => 0))), (r_12 7, .inl (cy 0, 4, .inl (fun _ => 0))), (q_13, .inl (cy 3, 8, .inr (.inr (.inr (.inr (fun i => if i < 8 then some (r_14 i) else none)))))), (r_14 0, .inl (cy 0, 5, .inl (fun _ => 0))), (r_14 1, .inl (cy 0, 5, .inl (fun _ => 0))), (r_14 2, .inl (cy 0, 5, .inl (fun _ => 0))), (r_14 3, .inl (cy 0, 5, .inl (fun _ => 0))), (r_14 4, .inl (cy 0, 5, .inl (fun _ => 0))), (r_14 5, .inl (cy 0, 5, .inl (fun _ => 0))), (r_14 6, .inl (cy 0, 5, .inl (fun _ => 0))), (r_14 7, .inl (cy 0, 5, .inl (fun _ => 0))), (q_15, .inl (cy 3, 8, .inr (.inr (.inr (.inr (fun i => if i < 8 then some (r_16 i) else none)))))), (r_16 0, .inl (cy 0, 8, .inl (fun _ => 0))), (r_16 1, .inl (cy 0, 8, .inl (fun _ => 0))), (r_16 2, .inl (cy 0, 8, .inl (fun _ => 0))), (r_16 3, .inl (cy 0, 8, .inl (fun _ => 0))), (r_16 4, .inl (cy 0, 8, .inl (fun _ => 0))), (r_16 5, .inl (cy 0, 8, .inl (fun _ => 0))), (r_16 6, .inl (cy 0, 8, .inl (fun _ => 0))), (r_16 7, .inl (cy 0, 8, .inl (fun _ => 0))), (q_17, .inl (cy 0, 3, .inl (fun _ => 0)))] H := hP
  have hD : va_D A [(qm, .inr (5, [.ref q_1, .ref q_2, .ref q_3, .ref q_4, .ref q_6, .ref q_7, .ref q_8, .ref q_9, .int 0, .ref q_10, .int 0, .ref q_11, .int 0, .ref q_13, .ref q_15, .int 0, .int 0, .int 1, .null, .null, .int 0, .int 0, .int 0, .long 0, .int 0, .ref q_17, .int 0, .int 0, .int 0, .null, .null, .null, .null, .null, .int 0])), (q_1, .inl (cy 0, 8, .inl (fun _ => 0))), (q_2, .inl (cy 0, 8, .inl (fun _ => 0))), (q_3, .inl (cy 0, 8, .inl (fun _ => 0))), (q_4, .inl (cy 4, 8, .inr (.inr (.inr (.inr (fun i => if i < 8 then some (r_5 i) else none)))))), (r_5 0, .inl (cy 1, 40, .inr (.inl (fun _ => 0)))), (r_5 1, .inl (cy 1, 40, .inr (.inl (fun _ => 0)))), (r_5 2, .inl (cy 1, 40, .inr (.inl (fun _ => 0)))), (r_5 3, .inl (cy 1, 40, .inr (.inl (fun _ => 0)))), (r_5 4, .inl (cy 1, 40, .inr (.inl (fun _ => 0)))), (r_5 5, .inl (cy 1, 40, .inr (.inl (fun _ => 0)))), (r_5 6, .inl (cy 1, 40, .inr (.inl (fun _ => 0)))), (r_5 7, .inl (cy 1, 40, .inr (.inl (fun _ => 0)))), (q_6, .inl (cy 1, 40, .inr (.inl (fun _ => 0)))), (q_7, .inl (cy 0, 8, .inl (fun _ => 0))), (q_8, .inl (cy 0, 8, .inl (fun _ => 0))), (q_9, .inl (cy 0, 250, .inl (fun _ => 0))), (q_10, .inl (cy 0, 8, .inl (fun _ => 0))), (q_11, .inl (cy 3, 8, .inr (.inr (.inr (.inr (fun i => if i < 8 then some (r_12 i) else none)))))), (r_12 0, .inl (cy 0, 4, .inl (fun _ => 0))), (r_12 1, .inl (cy 0, 4, .inl (fun _ => 0))), (r_12 2, .inl (cy 0, 4, .inl (fun _ => 0))), (r_12 3, .inl (cy 0, 4, .inl (fun _ => 0))), (r_12 4, .inl (cy 0, 4, .inl (fun _ => 0))), (r_12 5, .inl (cy 0, 4, .inl (fun _ => 0))), (r_12 6, .inl (cy 0, 4, .inl (fun _ => 0))), (r_12 7, .inl (cy 0, 4, .inl (fun _ => 0))), (q_13, .inl (cy 3, 8, .inr (.inr (.inr (.inr (fun i => if i < 8 then some (r_14 i) else none)))))), (r_14 0, .inl (cy 0, 5, .inl (fun _ => 0))), (r_14 1, .inl (cy 0, 5, .inl (fun _ => 0))), (r_14 2, .inl (cy 0, 5, .inl (fun _ => 0))), (r_14 3, .inl (cy 0, 5, .inl (fun _ => 0))), (r_14 4, .inl (cy 0, 5, .inl (fun _ => 0))), (r_14 5, .inl (cy 0, 5, .inl (fun _ => 0))), (r_14 6, .inl (cy 0, 5, .inl (fun _ => 0))), (r_14 7, .inl (cy 0, 5, .inl (fun _ => 0))), (q_15, .inl (cy 3, 8, .inr (.inr (.inr (.inr (fun i => if i < 8 then some (r_16 i) else none)))))), (r_16 0, .inl (cy 0, 8, .inl (fun _ => 0))), (r_16 1, .inl (cy 0, 8, .inl (fun _ => 0))), (r_16 2, .inl (cy 0, 8, .inl (fun _ => 0))), (r_16 3, .inl (cy 0, 8, .inl (fun _ => 0))), (r_16 4, .inl (cy 0, 8, .inl (fun _ => 0))), (r_16 5, .inl (cy 0, 8, .inl (fun _ => 0))), (r_16 6, .inl (cy 0, 8, .inl (fun _ => 0))), (r_16 7, .inl (cy 0, 8, .inl (fun _ => 0))), (q_17, .inl (cy 0, 3, .inl (fun _ => 0)))] := hD
  refine lv_aload_n hx hb dX6_init_127 rfl (lv_at hl 0 rfl) ?_
  refine lv_bipush (v := 8) hx hb dX6_init_128 (by decide) ?_
  refine newI hx hb hts m_t92 hN hP hD hS hA 8 (by decide) (by decide) (Nat.le_of_ble_eq_true rfl) (Nat.le_of_ble_eq_true rfl) (Nat.le_of_ble_eq_true rfl) dX6_init_130 (fun q_18 H hP hD hS => ?_)
  have hP : va_P G CL [(qm, .inr (5, [.ref q_1, .ref q_2, .ref q_3, .ref q_4, .ref q_6, .ref q_7, .ref q_8, .ref q_9, .int 0, .ref q_10, .int 0, .ref q_11, .int 0, .ref q_13, .ref q_15, .int 0, .int 0, .int 1, .null, .null, .int 0, .int 0, .int 0, .long 0, .int 0, .ref q_17, .int 0, .int 0, .int 0, .null, .null, .null, .null, .null, .int 0])), (q_1, .inl (cy 0, 8, .inl (fun _ => 0))), (q_2, .inl (cy 0, 8, .inl (fun _ => 0))), (q_3, .inl (cy 0, 8, .inl (fun _ => 0))), (q_4, .inl (cy 4, 8, .inr (.inr (.inr (.inr (fun i => if i < 8 then some (r_5 i) else none)))))), (r_5 0, .inl (cy 1, 40, .inr (.inl (fun _ => 0)))), (r_5 1, .inl (cy 1, 40, .inr (.inl (fun _ => 0)))), (r_5 2, .inl (cy 1, 40, .inr (.inl (fun _ => 0)))), (r_5 3, .inl (cy 1, 40, .inr (.inl (fun _ => 0)))), (r_5 4, .inl (cy 1, 40, .inr (.inl (fun _ => 0)))), (r_5 5, .inl (cy 1, 40, .inr (.inl (fun _ => 0)))), (r_5 6, .inl (cy 1, 40, .inr (.inl (fun _ => 0)))), (r_5 7, .inl (cy 1, 40, .inr (.inl (fun _ => 0)))), (q_6, .inl (cy 1, 40, .inr (.inl (fun _ => 0)))), (q_7, .inl (cy 0, 8, .inl (fun _ => 0))), (q_8, .inl (cy 0, 8, .inl (fun _ => 0))), (q_9, .inl (cy 0, 250, .inl (fun _ => 0))), (q_10, .inl (cy 0, 8, .inl (fun _ => 0))), (q_11, .inl (cy 3, 8, .inr (.inr (.inr (.inr (fun i => if i < 8 then some (r_12 i) else none)))))), (r_12 0, .inl (cy 0, 4, .inl (fun _ => 0))), (r_12 1, .inl (cy 0, 4, .inl (fun _ => 0))), (r_12 2, .inl (cy 0, 4, .inl (fun _ => 0))), (r_12 3, .inl (cy 0, 4, .inl (fun _ => 0))), (r_12 4, .inl (cy 0, 4, .inl (fun _ => 0))), (r_12 5, .inl (cy 0, 4, .inl (fun _ => 0))), (r_12 6, .inl (cy 0, 4, .inl (fun _ => 0))), (r_12 7, .inl (cy 0, 4, .inl (fun _ => 0))), (q_13, .inl (cy 3, 8, .inr (.inr (.inr (.inr (fun i => if i < 8 then some (r_14 i) else none)))))), (r_14 0, .inl (cy 0, 5, .inl (fun _ => 0))), (r_14 1, .inl (cy 0, 5, .inl (fun _ => 0))), (r_14 2, .inl (cy 0, 5, .inl (fun _ => 0))), (r_14 3, .inl (cy 0, 5, .inl (fun _ => 0))), (r_14 4, .inl (cy 0, 5, .inl (fun _ => 0))), (r_14 5, .inl (cy 0, 5, .inl (fun _ => 0))), (r_14 6, .inl (cy 0, 5, .inl (fun _ => 0))), (r_14 7, .inl (cy 0, 5, .inl (fun _ => 0))), (q_15, .inl (cy 3, 8, .inr (.inr (.inr (.inr (fun i => if i < 8 then some (r_16 i) else none)))))), (r_16 0, .inl (cy 0, 8, .inl (fun _ => 0))), (r_16 1, .inl (cy 0, 8, .inl (fun _ => 0))), (r_16 2, .inl (cy 0, 8, .inl (fun _ => 0))), (r_16 3, .inl (cy 0, 8, .inl (fun _ => 0))), (r_16 4, .inl (cy 0, 8, .inl (fun _ => 0))), (r_16 5, .inl (cy 0, 8, .inl (fun _ => 0))), (r_16 6, .inl (cy 0, 8, .inl (fun _ => 0))), (r_16 7, .inl (cy 0, 8, .inl (fun _ => 0))), (q_17, .inl (cy 0, 3, .inl (fun _ => 0))), (q_18, .inl (cy 0, 8, .inl (fun _ => 0)))] H := hP
  have hD : va_D A [(qm, .inr (5, [.ref q_1, .ref q_2, .ref q_3, .ref q_4, .ref q_6, .ref q_7, .ref q_8, .ref q_9, .int 0, .ref q_10, .int 0, .ref q_11, .int 0, .ref q_13, .ref q_15, .int 0, .int 0, .int 1, .null, .null, .int 0, .int 0, .int 0, .long 0, .int 0, .ref q_17, .int 0, .int 0, .int 0, .null, .null, .null, .null, .null, .int 0])), (q_1, .inl (cy 0, 8, .inl (fun _ => 0))), (q_2, .inl (cy 0, 8, .inl (fun _ => 0))), (q_3, .inl (cy 0, 8, .inl (fun _ => 0))), (q_4, .inl (cy 4, 8, .inr (.inr (.inr (.inr (fun i => if i < 8 then some (r_5 i) else none)))))), (r_5 0, .inl (cy 1, 40, .inr (.inl (fun _ => 0)))), (r_5 1, .inl (cy 1, 40, .inr (.inl (fun _ => 0)))), (r_5 2, .inl (cy 1, 40, .inr (.inl (fun _ => 0)))), (r_5 3, .inl (cy 1, 40, .inr (.inl (fun _ => 0)))), (r_5 4, .inl (cy 1, 40, .inr (.inl (fun _ => 0)))), (r_5 5, .inl (cy 1, 40, .inr (.inl (fun _ => 0)))), (r_5 6, .inl (cy 1, 40, .inr (.inl (fun _ => 0)))), (r_5 7, .inl (cy 1, 40, .inr (.inl (fun _ => 0)))), (q_6, .inl (cy 1, 40, .inr (.inl (fun _ => 0)))), (q_7, .inl (cy 0, 8, .inl (fun _ => 0))), (q_8, .inl (cy 0, 8, .inl (fun _ => 0))), (q_9, .inl (cy 0, 250, .inl (fun _ => 0))), (q_10, .inl (cy 0, 8, .inl (fun _ => 0))), (q_11, .inl (cy 3, 8, .inr (.inr (.inr (.inr (fun i => if i < 8 then some (r_12 i) else none)))))), (r_12 0, .inl (cy 0, 4, .inl (fun _ => 0))), (r_12 1, .inl (cy 0, 4, .inl (fun _ => 0))), (r_12 2, .inl (cy 0, 4, .inl (fun _ => 0))), (r_12 3, .inl (cy 0, 4, .inl (fun _ => 0))), (r_12 4, .inl (cy 0, 4, .inl (fun _ => 0))), (r_12 5, .inl (cy 0, 4, .inl (fun _ => 0))), (r_12 6, .inl (cy 0, 4, .inl (fun _ => 0))), (r_12 7, .inl (cy 0, 4, .inl (fun _ => 0))), (q_13, .inl (cy 3, 8, .inr (.inr (.inr (.inr (fun i => if i < 8 then some (r_14 i) else none)))))), (r_14 0, .inl (cy 0, 5, .inl (fun _ => 0))), (r_14 1, .inl (cy 0, 5, .inl (fun _ => 0))), (r_14 2, .inl (cy 0, 5, .inl (fun _ => 0))), (r_14 3, .inl (cy 0, 5, .inl (fun _ => 0))), (r_14 4, .inl (cy 0, 5, .inl (fun _ => 0))), (r_14 5, .inl (cy 0, 5, .inl (fun _ => 0))), (r_14 6, .inl (cy 0, 5, .inl (fun _ => 0))), (r_14 7, .inl (cy 0, 5, .inl (fun _ => 0))), (q_15, .inl (cy 3, 8, .inr (.inr (.inr (.inr (fun i => if i < 8 then some (r_16 i) else none)))))), (r_16 0, .inl (cy 0, 8, .inl (fun _ => 0))), (r_16 1, .inl (cy 0, 8, .inl (fun _ => 0))), (r_16 2, .inl (cy 0, 8, .inl (fun _ => 0))), (r_16 3, .inl (cy 0, 8, .inl (fun _ => 0))), (r_16 4, .inl (cy 0, 8, .inl (fun _ => 0))), (r_16 5, .inl (cy 0, 8, .inl (fun _ => 0))), (r_16 6, .inl (cy 0, 8, .inl (fun _ => 0))), (r_16 7, .inl (cy 0, 8, .inl (fun _ => 0))), (q_17, .inl (cy 0, 3, .inl (fun _ => 0))), (q_18, .inl (cy 0, 8, .inl (fun _ => 0)))] := hD
  refine W.widen (k := 46) (n := 837) (Nat.le_of_ble_eq_true rfl) (Nat.le_of_ble_eq_true rfl) ?_
  refine va_putF (D := G) (ci := 5) (v := .ref q_18) (ty := (.array .int)) (C := RX6) (T := TX6) (N := 35) hx hb hts iX_X6 tyX6 tyX6_ok nmX6 hown hK hP hD hS 0 rfl rfl 30 (by decide) (hts _ m_t880) (fun _ h9 => h9) rfl hin rfl (by decide +kernel) rfl rfl (Nat.le_of_ble_eq_true rfl) dX6_init_132 (fun H locs hP hD hS => ?_)
  have hP : va_P G CL [(qm, .inr (5, [.ref q_1, .ref q_2, .ref q_3, .ref q_4, .ref q_6, .ref q_7, .ref q_8, .ref q_9, .int 0, .ref q_10, .int 0, .ref q_11, .int 0, .ref q_13, .ref q_15, .int 0, .int 0, .int 1, .null, .null, .int 0, .int 0, .int 0, .long 0, .int 0, .ref q_17, .int 0, .int 0, .int 0, .null, .ref q_18, .null, .null, .null, .int 0])), (q_1, .inl (cy 0, 8, .inl (fun _ => 0))), (q_2, .inl (cy 0, 8, .inl (fun _ => 0))), (q_3, .inl (cy 0, 8, .inl (fun _ => 0))), (q_4, .inl (cy 4, 8, .inr (.inr (.inr (.inr (fun i => if i < 8 then some (r_5 i) else none)))))), (r_5 0, .inl (cy 1, 40, .inr (.inl (fun _ => 0)))), (r_5 1, .inl (cy 1, 40, .inr (.inl (fun _ => 0)))), (r_5 2, .inl (cy 1, 40, .inr (.inl (fun _ => 0)))), (r_5 3, .inl (cy 1, 40, .inr (.inl (fun _ => 0)))), (r_5 4, .inl (cy 1, 40, .inr (.inl (fun _ => 0)))), (r_5 5, .inl (cy 1, 40, .inr (.inl (fun _ => 0)))), (r_5 6, .inl (cy 1, 40, .inr (.inl (fun _ => 0)))), (r_5 7, .inl (cy 1, 40, .inr (.inl (fun _ => 0)))), (q_6, .inl (cy 1, 40, .inr (.inl (fun _ => 0)))), (q_7, .inl (cy 0, 8, .inl (fun _ => 0))), (q_8, .inl (cy 0, 8, .inl (fun _ => 0))), (q_9, .inl (cy 0, 250, .inl (fun _ => 0))), (q_10, .inl (cy 0, 8, .inl (fun _ => 0))), (q_11, .inl (cy 3, 8, .inr (.inr (.inr (.inr (fun i => if i < 8 then some (r_12 i) else none)))))), (r_12 0, .inl (cy 0, 4, .inl (fun _ => 0))), (r_12 1, .inl (cy 0, 4, .inl (fun _ => 0))), (r_12 2, .inl (cy 0, 4, .inl (fun _ => 0))), (r_12 3, .inl (cy 0, 4, .inl (fun _ => 0))), (r_12 4, .inl (cy 0, 4, .inl (fun _ => 0))), (r_12 5, .inl (cy 0, 4, .inl (fun _ => 0))), (r_12 6, .inl (cy 0, 4, .inl (fun _ => 0))), (r_12 7, .inl (cy 0, 4, .inl (fun _ => 0))), (q_13, .inl (cy 3, 8, .inr (.inr (.inr (.inr (fun i => if i < 8 then some (r_14 i) else none)))))), (r_14 0, .inl (cy 0, 5, .inl (fun _ => 0))), (r_14 1, .inl (cy 0, 5, .inl (fun _ => 0))), (r_14 2, .inl (cy 0, 5, .inl (fun _ => 0))), (r_14 3, .inl (cy 0, 5, .inl (fun _ => 0))), (r_14 4, .inl (cy 0, 5, .inl (fun _ => 0))), (r_14 5, .inl (cy 0, 5, .inl (fun _ => 0))), (r_14 6, .inl (cy 0, 5, .inl (fun _ => 0))), (r_14 7, .inl (cy 0, 5, .inl (fun _ => 0))), (q_15, .inl (cy 3, 8, .inr (.inr (.inr (.inr (fun i => if i < 8 then some (r_16 i) else none)))))), (r_16 0, .inl (cy 0, 8, .inl (fun _ => 0))), (r_16 1, .inl (cy 0, 8, .inl (fun _ => 0))), (r_16 2, .inl (cy 0, 8, .inl (fun _ => 0))), (r_16 3, .inl (cy 0, 8, .inl (fun _ => 0))), (r_16 4, .inl (cy 0, 8, .inl (fun _ => 0))), (r_16 5, .inl (cy 0, 8, .inl (fun _ => 0))), (r_16 6, .inl (cy 0, 8, .inl (fun _ => 0))), (r_16 7, .inl (cy 0, 8, .inl (fun _ => 0))), (q_17, .inl (cy 0, 3, .inl (fun _ => 0))), (q_18, .inl (cy 0, 8, .inl (fun _ => 0)))] H := hP
  have hD : va_D A [(qm, .inr (5, [.ref q_1, .ref q_2, .ref q_3, .ref q_4, .ref q_6, .ref q_7, .ref q_8, .ref q_9, .int 0, .ref q_10, .int 0, .ref q_11, .int 0, .ref q_13, .ref q_15, .int 0, .int 0, .int 1, .null, .null, .int 0, .int 0, .int 0, .long 0, .int 0, .ref q_17, .int 0, .int 0, .int 0, .null, .ref q_18, .null, .null, .null, .int 0])), (q_1, .inl (cy 0, 8, .inl (fun _ => 0))), (q_2, .inl (cy 0, 8, .inl (fun _ => 0))), (q_3, .inl (cy 0, 8, .inl (fun _ => 0))), (q_4, .inl (cy 4, 8, .inr (.inr (.inr (.inr (fun i => if i < 8 then some (r_5 i) else none)))))), (r_5 0, .inl (cy 1, 40, .inr (.inl (fun _ => 0)))), (r_5 1, .inl (cy 1, 40, .inr (.inl (fun _ => 0)))), (r_5 2, .inl (cy 1, 40, .inr (.inl (fun _ => 0)))), (r_5 3, .inl (cy 1, 40, .inr (.inl (fun _ => 0)))), (r_5 4, .inl (cy 1, 40, .inr (.inl (fun _ => 0)))), (r_5 5, .inl (cy 1, 40, .inr (.inl (fun _ => 0)))), (r_5 6, .inl (cy 1, 40, .inr (.inl (fun _ => 0)))), (r_5 7, .inl (cy 1, 40, .inr (.inl (fun _ => 0)))), (q_6, .inl (cy 1, 40, .inr (.inl (fun _ => 0)))), (q_7, .inl (cy 0, 8, .inl (fun _ => 0))), (q_8, .inl (cy 0, 8, .inl (fun _ => 0))), (q_9, .inl (cy 0, 250, .inl (fun _ => 0))), (q_10, .inl (cy 0, 8, .inl (fun _ => 0))), (q_11, .inl (cy 3, 8, .inr (.inr (.inr (.inr (fun i => if i < 8 then some (r_12 i) else none)))))), (r_12 0, .inl (cy 0, 4, .inl (fun _ => 0))), (r_12 1, .inl (cy 0, 4, .inl (fun _ => 0))), (r_12 2, .inl (cy 0, 4, .inl (fun _ => 0))), (r_12 3, .inl (cy 0, 4, .inl (fun _ => 0))), (r_12 4, .inl (cy 0, 4, .inl (fun _ => 0))), (r_12 5, .inl (cy 0, 4, .inl (fun _ => 0))), (r_12 6, .inl (cy 0, 4, .inl (fun _ => 0))), (r_12 7, .inl (cy 0, 4, .inl (fun _ => 0))), (q_13, .inl (cy 3, 8, .inr (.inr (.inr (.inr (fun i => if i < 8 then some (r_14 i) else none)))))), (r_14 0, .inl (cy 0, 5, .inl (fun _ => 0))), (r_14 1, .inl (cy 0, 5, .inl (fun _ => 0))), (r_14 2, .inl (cy 0, 5, .inl (fun _ => 0))), (r_14 3, .inl (cy 0, 5, .inl (fun _ => 0))), (r_14 4, .inl (cy 0, 5, .inl (fun _ => 0))), (r_14 5, .inl (cy 0, 5, .inl (fun _ => 0))), (r_14 6, .inl (cy 0, 5, .inl (fun _ => 0))), (r_14 7, .inl (cy 0, 5, .inl (fun _ => 0))), (q_15, .inl (cy 3, 8, .inr (.inr (.inr (.inr (fun i => if i < 8 then some (r_16 i) else none)))))), (r_16 0, .inl (cy 0, 8, .inl (fun _ => 0))), (r_16 1, .inl (cy 0, 8, .inl (fun _ => 0))), (r_16 2, .inl (cy 0, 8, .inl (fun _ => 0))), (r_16 3, .inl (cy 0, 8, .inl (fun _ => 0))), (r_16 4, .inl (cy 0, 8, .inl (fun _ => 0))), (r_16 5, .inl (cy 0, 8, .inl (fun _ => 0))), (r_16 6, .inl (cy 0, 8, .inl (fun _ => 0))), (r_16 7, .inl (cy 0, 8, .inl (fun _ => 0))), (q_17, .inl (cy 0, 3, .inl (fun _ => 0))), (q_18, .inl (cy 0, 8, .inl (fun _ => 0)))] := hD
  refine lv_aload_n hx hb dX6_init_135 rfl (lv_at hl 0 rfl) ?_
  refine lv_iconst (v := 5) hx hb dX6_init_136 (by decide) ?_
  refine newI hx hb hts m_t92 hN hP hD hS hA 5 (by decide) (by decide) (Nat.le_of_ble_eq_true rfl) (Nat.le_of_ble_eq_true rfl) (Nat.le_of_ble_eq_true rfl) dX6_init_137 (fun q_19 H hP hD hS => ?_)
  have hP : va_P G CL [(qm, .inr (5, [.ref q_1, .ref q_2, .ref q_3, .ref q_4, .ref q_6, .ref q_7, .ref q_8, .ref q_9, .int 0, .ref q_10, .int 0, .ref q_11, .int 0, .ref q_13, .ref q_15, .int 0, .int 0, .int 1, .null, .null, .int 0, .int 0, .int 0, .long 0, .int 0, .ref q_17, .int 0, .int 0, .int 0, .null, .ref q_18, .null, .null, .null, .int 0])), (q_1, .inl (cy 0, 8, .inl (fun _ => 0))), (q_2, .inl (cy 0, 8, .inl (fun _ => 0))), (q_3, .inl (cy 0, 8, .inl (fun _ => 0))), (q_4, .inl (cy 4, 8, .inr (.inr (.inr (.inr (fun i => if i < 8 then some (r_5 i) else none)))))), (r_5 0, .inl (cy 1, 40, .inr (.inl (fun _ => 0)))), (r_5 1, .inl (cy 1, 40, .inr (.inl (fun _ => 0)))), (r_5 2, .inl (cy 1, 40, .inr (.inl (fun _ => 0)))), (r_5 3, .inl (cy 1, 40, .inr (.inl (fun _ => 0)))), (r_5 4, .inl (cy 1, 40, .inr (.inl (fun _ => 0)))), (r_5 5, .inl (cy 1, 40, .inr (.inl (fun _ => 0)))), (r_5 6, .inl (cy 1, 40, .inr (.inl (fun _ => 0)))), (r_5 7, .inl (cy 1, 40, .inr (.inl (fun _ => 0)))), (q_6, .inl (cy 1, 40, .inr (.inl (fun _ => 0)))), (q_7, .inl (cy 0, 8, .inl (fun _ => 0))), (q_8, .inl (cy 0, 8, .inl (fun _ => 0))), (q_9, .inl (cy 0, 250, .inl (fun _ => 0))), (q_10, .inl (cy 0, 8, .inl (fun _ => 0))), (q_11, .inl (cy 3, 8, .inr (.inr (.inr (.inr (fun i => if i < 8 then some (r_12 i) else none)))))), (r_12 0, .inl (cy 0, 4, .inl (fun _ => 0))), (r_12 1, .inl (cy 0, 4, .inl (fun _ => 0))), (r_12 2, .inl (cy 0, 4, .inl (fun _ => 0))), (r_12 3, .inl (cy 0, 4, .inl (fun _ => 0))), (r_12 4, .inl (cy 0, 4, .inl (fun _ => 0))), (r_12 5, .inl (cy 0, 4, .inl (fun _ => 0))), (r_12 6, .inl (cy 0, 4, .inl (fun _ => 0))), (r_12 7, .inl (cy 0, 4, .inl (fun _ => 0))), (q_13, .inl (cy 3, 8, .inr (.inr (.inr (.inr (fun i => if i < 8 then some (r_14 i) else none)))))), (r_14 0, .inl (cy 0, 5, .inl (fun _ => 0))), (r_14 1, .inl (cy 0, 5, .inl (fun _ => 0))), (r_14 2, .inl (cy 0, 5, .inl (fun _ => 0))), (r_14 3, .inl (cy 0, 5, .inl (fun _ => 0))), (r_14 4, .inl (cy 0, 5, .inl (fun _ => 0))), (r_14 5, .inl (cy 0, 5, .inl (fun _ => 0))), (r_14 6, .inl (cy 0, 5, .inl (fun _ => 0))), (r_14 7, .inl (cy 0, 5, .inl (fun _ => 0))), (q_15, .inl (cy 3, 8, .inr (.inr (.inr (.inr (fun i => if i < 8 then some (r_16 i) else none)))))), (r_16 0, .inl (cy 0, 8, .inl (fun _ => 0))), (r_16 1, .inl (cy 0, 8, .inl (fun _ => 0))), (r_16 2, .inl (cy 0, 8, .inl (fun _ => 0))), (r_16 3, .inl (cy 0, 8, .inl (fun _ => 0))), (r_16 4, .inl (cy 0, 8, .inl (fun _ => 0))), (r_16 5, .inl (cy 0, 8, .inl (fun _ => 0))), (r_16 6, .inl (cy 0, 8, .inl (fun _ => 0))), (r_16 7, .inl (cy 0, 8, .inl (fun _ => 0))), (q_17, .inl (cy 0, 3, .inl (fun _ => 0))), (q_18, .inl (cy 0, 8, .inl (fun _ => 0))), (q_19, .inl (cy 0, 5, .inl (fun _ => 0)))] H := hP
  have hD : va_D A [(qm, .inr (5, [.ref q_1, .ref q_2, .ref q_3, .ref q_4, .ref q_6, .ref q_7, .ref q_8, .ref q_9, .int 0, .ref q_10, .int 0, .ref q_11, .int 0, .ref q_13, .ref q_15, .int 0, .int 0, .int 1, .null, .null, .int 0, .int 0, .int 0, .long 0, .int 0, .ref q_17, .int 0, .int 0, .int 0, .null, .ref q_18, .null, .null, .null, .int 0])), (q_1, .inl (cy 0, 8, .inl (fun _ => 0))), (q_2, .inl (cy 0, 8, .inl (fun _ => 0))), (q_3, .inl (cy 0, 8, .inl (fun _ => 0))), (q_4, .inl (cy 4, 8, .inr (.inr (.inr (.inr (fun i => if i < 8 then some (r_5 i) else none)))))), (r_5 0, .inl (cy 1, 40, .inr (.inl (fun _ => 0)))), (r_5 1, .inl (cy 1, 40, .inr (.inl (fun _ => 0)))), (r_5 2, .inl (cy 1, 40, .inr (.inl (fun _ => 0)))), (r_5 3, .inl (cy 1, 40, .inr (.inl (fun _ => 0)))), (r_5 4, .inl (cy 1, 40, .inr (.inl (fun _ => 0)))), (r_5 5, .inl (cy 1, 40, .inr (.inl (fun _ => 0)))), (r_5 6, .inl (cy 1, 40, .inr (.inl (fun _ => 0)))), (r_5 7, .inl (cy 1, 40, .inr (.inl (fun _ => 0)))), (q_6, .inl (cy 1, 40, .inr (.inl (fun _ => 0)))), (q_7, .inl (cy 0, 8, .inl (fun _ => 0))), (q_8, .inl (cy 0, 8, .inl (fun _ => 0))), (q_9, .inl (cy 0, 250, .inl (fun _ => 0))), (q_10, .inl (cy 0, 8, .inl (fun _ => 0))), (q_11, .inl (cy 3, 8, .inr (.inr (.inr (.inr (fun i => if i < 8 then some (r_12 i) else none)))))), (r_12 0, .inl (cy 0, 4, .inl (fun _ => 0))), (r_12 1, .inl (cy 0, 4, .inl (fun _ => 0))), (r_12 2, .inl (cy 0, 4, .inl (fun _ => 0))), (r_12 3, .inl (cy 0, 4, .inl (fun _ => 0))), (r_12 4, .inl (cy 0, 4, .inl (fun _ => 0))), (r_12 5, .inl (cy 0, 4, .inl (fun _ => 0))), (r_12 6, .inl (cy 0, 4, .inl (fun _ => 0))), (r_12 7, .inl (cy 0, 4, .inl (fun _ => 0))), (q_13, .inl (cy 3, 8, .inr (.inr (.inr (.inr (fun i => if i < 8 then some (r_14 i) else none)))))), (r_14 0, .inl (cy 0, 5, .inl (fun _ => 0))), (r_14 1, .inl (cy 0, 5, .inl (fun _ => 0))), (r_14 2, .inl (cy 0, 5, .inl (fun _ => 0))), (r_14 3, .inl (cy 0, 5, .inl (fun _ => 0))), (r_14 4, .inl (cy 0, 5, .inl (fun _ => 0))), (r_14 5, .inl (cy 0, 5, .inl (fun _ => 0))), (r_14 6, .inl (cy 0, 5, .inl (fun _ => 0))), (r_14 7, .inl (cy 0, 5, .inl (fun _ => 0))), (q_15, .inl (cy 3, 8, .inr (.inr (.inr (.inr (fun i => if i < 8 then some (r_16 i) else none)))))), (r_16 0, .inl (cy 0, 8, .inl (fun _ => 0))), (r_16 1, .inl (cy 0, 8, .inl (fun _ => 0))), (r_16 2, .inl (cy 0, 8, .inl (fun _ => 0))), (r_16 3, .inl (cy 0, 8, .inl (fun _ => 0))), (r_16 4, .inl (cy 0, 8, .inl (fun _ => 0))), (r_16 5, .inl (cy 0, 8, .inl (fun _ => 0))), (r_16 6, .inl (cy 0, 8, .inl (fun _ => 0))), (r_16 7, .inl (cy 0, 8, .inl (fun _ => 0))), (q_17, .inl (cy 0, 3, .inl (fun _ => 0))), (q_18, .inl (cy 0, 8, .inl (fun _ => 0))), (q_19, .inl (cy 0, 5, .inl (fun _ => 0)))] := hD
  refine W.widen (k := 47) (n := 842) (Nat.le_of_ble_eq_true rfl) (Nat.le_of_ble_eq_true rfl) ?_
  refine va_putF (D := G) (ci := 5) (v := .ref q_19) (ty := (.array .int)) (C := RX6) (T := TX6) (N := 35) hx hb hts iX_X6 tyX6 tyX6_ok nmX6 hown hK hP hD hS 0 rfl rfl 31 (by decide) (hts _ m_t881) (fun _ h9 => h9) rfl hin rfl (by decide +kernel) rfl rfl (Nat.le_of_ble_eq_true rfl) dX6_init_139 (fun H locs hP hD hS => ?_)
  have hP : va_P G CL [(qm, .inr (5, [.ref q_1, .ref q_2, .ref q_3, .ref q_4, .ref q_6, .ref q_7, .ref q_8, .ref q_9, .int 0, .ref q_10, .int 0, .ref q_11, .int 0, .ref q_13, .ref q_15, .int 0, .int 0, .int 1, .null, .null, .int 0, .int 0, .int 0, .long 0, .int 0, .ref q_17, .int 0, .int 0, .int 0, .null, .ref q_18, .ref q_19, .null, .null, .int 0])), (q_1, .inl (cy 0, 8, .inl (fun _ => 0))), (q_2, .inl (cy 0, 8, .inl (fun _ => 0))), (q_3, .inl (cy 0, 8, .inl (fun _ => 0))), (q_4, .inl (cy 4, 8, .inr (.inr (.inr (.inr (fun i => if i < 8 then some (r_5 i) else none)))))), (r_5 0, .inl (cy 1, 40, .inr (.inl (fun _ => 0)))), (r_5 1, .inl (cy 1, 40, .inr (.inl (fun _ => 0)))), (r_5 2, .inl (cy 1, 40, .inr (.inl (fun _ => 0)))), (r_5 3, .inl (cy 1, 40, .inr (.inl (fun _ => 0)))), (r_5 4, .inl (cy 1, 40, .inr (.inl (fun _ => 0)))), (r_5 5, .inl (cy 1, 40, .inr (.inl (fun _ => 0)))), (r_5 6, .inl (cy 1, 40, .inr (.inl (fun _ => 0)))), (r_5 7, .inl (cy 1, 40, .inr (.inl (fun _ => 0)))), (q_6, .inl (cy 1, 40, .inr (.inl (fun _ => 0)))), (q_7, .inl (cy 0, 8, .inl (fun _ => 0))), (q_8, .inl (cy 0, 8, .inl (fun _ => 0))), (q_9, .inl (cy 0, 250, .inl (fun _ => 0))), (q_10, .inl (cy 0, 8, .inl (fun _ => 0))), (q_11, .inl (cy 3, 8, .inr (.inr (.inr (.inr (fun i => if i < 8 then some (r_12 i) else none)))))), (r_12 0, .inl (cy 0, 4, .inl (fun _ => 0))), (r_12 1, .inl (cy 0, 4, .inl (fun _ => 0))), (r_12 2, .inl (cy 0, 4, .inl (fun _ => 0))), (r_12 3, .inl (cy 0, 4, .inl (fun _ => 0))), (r_12 4, .inl (cy 0, 4, .inl (fun _ => 0))), (r_12 5, .inl (cy 0, 4, .inl (fun _ => 0))), (r_12 6, .inl (cy 0, 4, .inl (fun _ => 0))), (r_12 7, .inl (cy 0, 4, .inl (fun _ => 0))), (q_13, .inl (cy 3, 8, .inr (.inr (.inr (.inr (fun i => if i < 8 then some (r_14 i) else none)))))), (r_14 0, .inl (cy 0, 5, .inl (fun _ => 0))), (r_14 1, .inl (cy 0, 5, .inl (fun _ => 0))), (r_14 2, .inl (cy 0, 5, .inl (fun _ => 0))), (r_14 3, .inl (cy 0, 5, .inl (fun _ => 0))), (r_14 4, .inl (cy 0, 5, .inl (fun _ => 0))), (r_14 5, .inl (cy 0, 5, .inl (fun _ => 0))), (r_14 6, .inl (cy 0, 5, .inl (fun _ => 0))), (r_14 7, .inl (cy 0, 5, .inl (fun _ => 0))), (q_15, .inl (cy 3, 8, .inr (.inr (.inr (.inr (fun i => if i < 8 then some (r_16 i) else none)))))), (r_16 0, .inl (cy 0, 8, .inl (fun _ => 0))), (r_16 1, .inl (cy 0, 8, .inl (fun _ => 0))), (r_16 2, .inl (cy 0, 8, .inl (fun _ => 0))), (r_16 3, .inl (cy 0, 8, .inl (fun _ => 0))), (r_16 4, .inl (cy 0, 8, .inl (fun _ => 0))), (r_16 5, .inl (cy 0, 8, .inl (fun _ => 0))), (r_16 6, .inl (cy 0, 8, .inl (fun _ => 0))), (r_16 7, .inl (cy 0, 8, .inl (fun _ => 0))), (q_17, .inl (cy 0, 3, .inl (fun _ => 0))), (q_18, .inl (cy 0, 8, .inl (fun _ => 0))), (q_19, .inl (cy 0, 5, .inl (fun _ => 0)))] H := hP
  have hD : va_D A [(qm, .inr (5, [.ref q_1, .ref q_2, .ref q_3, .ref q_4, .ref q_6, .ref q_7, .ref q_8, .ref q_9, .int 0, .ref q_10, .int 0, .ref q_11, .int 0, .ref q_13, .ref q_15, .int 0, .int 0, .int 1, .null, .null, .int 0, .int 0, .int 0, .long 0, .int 0, .ref q_17, .int 0, .int 0, .int 0, .null, .ref q_18, .ref q_19, .null, .null, .int 0])), (q_1, .inl (cy 0, 8, .inl (fun _ => 0))), (q_2, .inl (cy 0, 8, .inl (fun _ => 0))), (q_3, .inl (cy 0, 8, .inl (fun _ => 0))), (q_4, .inl (cy 4, 8, .inr (.inr (.inr (.inr (fun i => if i < 8 then some (r_5 i) else none)))))), (r_5 0, .inl (cy 1, 40, .inr (.inl (fun _ => 0)))), (r_5 1, .inl (cy 1, 40, .inr (.inl (fun _ => 0)))), (r_5 2, .inl (cy 1, 40, .inr (.inl (fun _ => 0)))), (r_5 3, .inl (cy 1, 40, .inr (.inl (fun _ => 0)))), (r_5 4, .inl (cy 1, 40, .inr (.inl (fun _ => 0)))), (r_5 5, .inl (cy 1, 40, .inr (.inl (fun _ => 0)))), (r_5 6, .inl (cy 1, 40, .inr (.inl (fun _ => 0)))), (r_5 7, .inl (cy 1, 40, .inr (.inl (fun _ => 0)))), (q_6, .inl (cy 1, 40, .inr (.inl (fun _ => 0)))), (q_7, .inl (cy 0, 8, .inl (fun _ => 0))), (q_8, .inl (cy 0, 8, .inl (fun _ => 0))), (q_9, .inl (cy 0, 250, .inl (fun _ => 0))), (q_10, .inl (cy 0, 8, .inl (fun _ => 0))), (q_11, .inl (cy 3, 8, .inr (.inr (.inr (.inr (fun i => if i < 8 then some (r_12 i) else none)))))), (r_12 0, .inl (cy 0, 4, .inl (fun _ => 0))), (r_12 1, .inl (cy 0, 4, .inl (fun _ => 0))), (r_12 2, .inl (cy 0, 4, .inl (fun _ => 0))), (r_12 3, .inl (cy 0, 4, .inl (fun _ => 0))), (r_12 4, .inl (cy 0, 4, .inl (fun _ => 0))), (r_12 5, .inl (cy 0, 4, .inl (fun _ => 0))), (r_12 6, .inl (cy 0, 4, .inl (fun _ => 0))), (r_12 7, .inl (cy 0, 4, .inl (fun _ => 0))), (q_13, .inl (cy 3, 8, .inr (.inr (.inr (.inr (fun i => if i < 8 then some (r_14 i) else none)))))), (r_14 0, .inl (cy 0, 5, .inl (fun _ => 0))), (r_14 1, .inl (cy 0, 5, .inl (fun _ => 0))), (r_14 2, .inl (cy 0, 5, .inl (fun _ => 0))), (r_14 3, .inl (cy 0, 5, .inl (fun _ => 0))), (r_14 4, .inl (cy 0, 5, .inl (fun _ => 0))), (r_14 5, .inl (cy 0, 5, .inl (fun _ => 0))), (r_14 6, .inl (cy 0, 5, .inl (fun _ => 0))), (r_14 7, .inl (cy 0, 5, .inl (fun _ => 0))), (q_15, .inl (cy 3, 8, .inr (.inr (.inr (.inr (fun i => if i < 8 then some (r_16 i) else none)))))), (r_16 0, .inl (cy 0, 8, .inl (fun _ => 0))), (r_16 1, .inl (cy 0, 8, .inl (fun _ => 0))), (r_16 2, .inl (cy 0, 8, .inl (fun _ => 0))), (r_16 3, .inl (cy 0, 8, .inl (fun _ => 0))), (r_16 4, .inl (cy 0, 8, .inl (fun _ => 0))), (r_16 5, .inl (cy 0, 8, .inl (fun _ => 0))), (r_16 6, .inl (cy 0, 8, .inl (fun _ => 0))), (r_16 7, .inl (cy 0, 8, .inl (fun _ => 0))), (q_17, .inl (cy 0, 3, .inl (fun _ => 0))), (q_18, .inl (cy 0, 8, .inl (fun _ => 0))), (q_19, .inl (cy 0, 5, .inl (fun _ => 0)))] := hD
  refine lv_aload_n hx hb dX6_init_142 rfl (lv_at hl 0 rfl) ?_
  refine lv_iconst (v := 5) hx hb dX6_init_143 (by decide) ?_
  refine newI hx hb hts m_t92 hN hP hD hS hA 5 (by decide) (by decide) (Nat.le_of_ble_eq_true rfl) (Nat.le_of_ble_eq_true rfl) (Nat.le_of_ble_eq_true rfl) dX6_init_144 (fun q_20 H hP hD hS => ?_)
  have hP : va_P G CL [(qm, .inr (5, [.ref q_1, .ref q_2, .ref q_3, .ref q_4, .ref q_6, .ref q_7, .ref q_8, .ref q_9, .int 0, .ref q_10, .int 0, .ref q_11, .int 0, .ref q_13, .ref q_15, .int 0, .int 0, .int 1, .null, .null, .int 0, .int 0, .int 0, .long 0, .int 0, .ref q_17, .int 0, .int 0, .int 0, .null, .ref q_18, .ref q_19, .null, .null, .int 0])), (q_1, .inl (cy 0, 8, .inl (fun _ => 0))), (q_2, .inl (cy 0, 8, .inl (fun _ => 0))), (q_3, .inl (cy 0, 8, .inl (fun _ => 0))), (q_4, .inl (cy 4, 8, .inr (.inr (.inr (.inr (fun i => if i < 8 then some (r_5 i) else none)))))), (r_5 0, .inl (cy 1, 40, .inr (.inl (fun _ => 0)))), (r_5 1, .inl (cy 1, 40, .inr (.inl (fun _ => 0)))), (r_5 2, .inl (cy 1, 40, .inr (.inl (fun _ => 0)))), (r_5 3, .inl (cy 1, 40, .inr (.inl (fun _ => 0)))), (r_5 4, .inl (cy 1, 40, .inr (.inl (fun _ => 0)))), (r_5 5, .inl (cy 1, 40, .inr (.inl (fun _ => 0)))), (r_5 6, .inl (cy 1, 40, .inr (.inl (fun _ => 0)))), (r_5 7, .inl (cy 1, 40, .inr (.inl (fun _ => 0)))), (q_6, .inl (cy 1, 40, .inr (.inl (fun _ => 0)))), (q_7, .inl (cy 0, 8, .inl (fun _ => 0))), (q_8, .inl (cy 0, 8, .inl (fun _ => 0))), (q_9, .inl (cy 0, 250, .inl (fun _ => 0))), (q_10, .inl (cy 0, 8, .inl (fun _ => 0))), (q_11, .inl (cy 3, 8, .inr (.inr (.inr (.inr (fun i => if i < 8 then some (r_12 i) else none)))))), (r_12 0, .inl (cy 0, 4, .inl (fun _ => 0))), (r_12 1, .inl (cy 0, 4, .inl (fun _ => 0))), (r_12 2, .inl (cy 0, 4, .inl (fun _ => 0))), (r_12 3, .inl (cy 0, 4, .inl (fun _ => 0))), (r_12 4, .inl (cy 0, 4, .inl (fun _ => 0))), (r_12 5, .inl (cy 0, 4, .inl (fun _ => 0))), (r_12 6, .inl (cy 0, 4, .inl (fun _ => 0))), (r_12 7, .inl (cy 0, 4, .inl (fun _ => 0))), (q_13, .inl (cy 3, 8, .inr (.inr (.inr (.inr (fun i => if i < 8 then some (r_14 i) else none)))))), (r_14 0, .inl (cy 0, 5, .inl (fun _ => 0))), (r_14 1, .inl (cy 0, 5, .inl (fun _ => 0))), (r_14 2, .inl (cy 0, 5, .inl (fun _ => 0))), (r_14 3, .inl (cy 0, 5, .inl (fun _ => 0))), (r_14 4, .inl (cy 0, 5, .inl (fun _ => 0))), (r_14 5, .inl (cy 0, 5, .inl (fun _ => 0))), (r_14 6, .inl (cy 0, 5, .inl (fun _ => 0))), (r_14 7, .inl (cy 0, 5, .inl (fun _ => 0))), (q_15, .inl (cy 3, 8, .inr (.inr (.inr (.inr (fun i => if i < 8 then some (r_16 i) else none)))))), (r_16 0, .inl (cy 0, 8, .inl (fun _ => 0))), (r_16 1, .inl (cy 0, 8, .inl (fun _ => 0))), (r_16 2, .inl (cy 0, 8, .inl (fun _ => 0))), (r_16 3, .inl (cy 0, 8, .inl (fun _ => 0))), (r_16 4, .inl (cy 0, 8, .inl (fun _ => 0))), (r_16 5, .inl (cy 0, 8, .inl (fun _ => 0))), (r_16 6, .inl (cy 0, 8, .inl (fun _ => 0))), (r_16 7, .inl (cy 0, 8, .inl (fun _ => 0))), (q_17, .inl (cy 0, 3, .inl (fun _ => 0))), (q_18, .inl (cy 0, 8, .inl (fun _ => 0))), (q_19, .inl (cy 0, 5, .inl (fun _ => 0))), (q_20, .inl (cy 0, 5, .inl (fun _ => 0)))] H := hP
  have hD : va_D A [(qm, .inr (5, [.ref q_1, .ref q_2, .ref q_3, .ref q_4, .ref q_6, .ref q_7, .ref q_8, .ref q_9, .int 0, .ref q_10, .int 0, .ref q_11, .int 0, .ref q_13, .ref q_15, .int 0, .int 0, .int 1, .null, .null, .int 0, .int 0, .int 0, .long 0, .int 0, .ref q_17, .int 0, .int 0, .int 0, .null, .ref q_18, .ref q_19, .null, .null, .int 0])), (q_1, .inl (cy 0, 8, .inl (fun _ => 0))), (q_2, .inl (cy 0, 8, .inl (fun _ => 0))), (q_3, .inl (cy 0, 8, .inl (fun _ => 0))), (q_4, .inl (cy 4, 8, .inr (.inr (.inr (.inr (fun i => if i < 8 then some (r_5 i) else none)))))), (r_5 0, .inl (cy 1, 40, .inr (.inl (fun _ => 0)))), (r_5 1, .inl (cy 1, 40, .inr (.inl (fun _ => 0)))), (r_5 2, .inl (cy 1, 40, .inr (.inl (fun _ => 0)))), (r_5 3, .inl (cy 1, 40, .inr (.inl (fun _ => 0)))), (r_5 4, .inl (cy 1, 40, .inr (.inl (fun _ => 0)))), (r_5 5, .inl (cy 1, 40, .inr (.inl (fun _ => 0)))), (r_5 6, .inl (cy 1, 40, .inr (.inl (fun _ => 0)))), (r_5 7, .inl (cy 1, 40, .inr (.inl (fun _ => 0)))), (q_6, .inl (cy 1, 40, .inr (.inl (fun _ => 0)))), (q_7, .inl (cy 0, 8, .inl (fun _ => 0))), (q_8, .inl (cy 0, 8, .inl (fun _ => 0))), (q_9, .inl (cy 0, 250, .inl (fun _ => 0))), (q_10, .inl (cy 0, 8, .inl (fun _ => 0))), (q_11, .inl (cy 3, 8, .inr (.inr (.inr (.inr (fun i => if i < 8 then some (r_12 i) else none)))))), (r_12 0, .inl (cy 0, 4, .inl (fun _ => 0))), (r_12 1, .inl (cy 0, 4, .inl (fun _ => 0))), (r_12 2, .inl (cy 0, 4, .inl (fun _ => 0))), (r_12 3, .inl (cy 0, 4, .inl (fun _ => 0))), (r_12 4, .inl (cy 0, 4, .inl (fun _ => 0))), (r_12 5, .inl (cy 0, 4, .inl (fun _ => 0))), (r_12 6, .inl (cy 0, 4, .inl (fun _ => 0))), (r_12 7, .inl (cy 0, 4, .inl (fun _ => 0))), (q_13, .inl (cy 3, 8, .inr (.inr (.inr (.inr (fun i => if i < 8 then some (r_14 i) else none)))))), (r_14 0, .inl (cy 0, 5, .inl (fun _ => 0))), (r_14 1, .inl (cy 0, 5, .inl (fun _ => 0))), (r_14 2, .inl (cy 0, 5, .inl (fun _ => 0))), (r_14 3, .inl (cy 0, 5, .inl (fun _ => 0))), (r_14 4, .inl (cy 0, 5, .inl (fun _ => 0))), (r_14 5, .inl (cy 0, 5, .inl (fun _ => 0))), (r_14 6, .inl (cy 0, 5, .inl (fun _ => 0))), (r_14 7, .inl (cy 0, 5, .inl (fun _ => 0))), (q_15, .inl (cy 3, 8, .inr (.inr (.inr (.inr (fun i => if i < 8 then some (r_16 i) else none)))))), (r_16 0, .inl (cy 0, 8, .inl (fun _ => 0))), (r_16 1, .inl (cy 0, 8, .inl (fun _ => 0))), (r_16 2, .inl (cy 0, 8, .inl (fun _ => 0))), (r_16 3, .inl (cy 0, 8, .inl (fun _ => 0))), (r_16 4, .inl (cy 0, 8, .inl (fun _ => 0))), (r_16 5, .inl (cy 0, 8, .inl (fun _ => 0))), (r_16 6, .inl (cy 0, 8, .inl (fun _ => 0))), (r_16 7, .inl (cy 0, 8, .inl (fun _ => 0))), (q_17, .inl (cy 0, 3, .inl (fun _ => 0))), (q_18, .inl (cy 0, 8, .inl (fun _ => 0))), (q_19, .inl (cy 0, 5, .inl (fun _ => 0))), (q_20, .inl (cy 0, 5, .inl (fun _ => 0)))] := hD
  refine W.widen (k := 48) (n := 847) (Nat.le_of_ble_eq_true rfl) (Nat.le_of_ble_eq_true rfl) ?_
  refine va_putF (D := G) (ci := 5) (v := .ref q_20) (ty := (.array .int)) (C := RX6) (T := TX6) (N := 35) hx hb hts iX_X6 tyX6 tyX6_ok nmX6 hown hK hP hD hS 0 rfl rfl 32 (by decide) (hts _ m_t882) (fun _ h9 => h9) rfl hin rfl (by decide +kernel) rfl rfl (Nat.le_of_ble_eq_true rfl) dX6_init_146 (fun H locs hP hD hS => ?_)
  have hP : va_P G CL [(qm, .inr (5, [.ref q_1, .ref q_2, .ref q_3, .ref q_4, .ref q_6, .ref q_7, .ref q_8, .ref q_9, .int 0, .ref q_10, .int 0, .ref q_11, .int 0, .ref q_13, .ref q_15, .int 0, .int 0, .int 1, .null, .null, .int 0, .int 0, .int 0, .long 0, .int 0, .ref q_17, .int 0, .int 0, .int 0, .null, .ref q_18, .ref q_19, .ref q_20, .null, .int 0])), (q_1, .inl (cy 0, 8, .inl (fun _ => 0))), (q_2, .inl (cy 0, 8, .inl (fun _ => 0))), (q_3, .inl (cy 0, 8, .inl (fun _ => 0))), (q_4, .inl (cy 4, 8, .inr (.inr (.inr (.inr (fun i => if i < 8 then some (r_5 i) else none)))))), (r_5 0, .inl (cy 1, 40, .inr (.inl (fun _ => 0)))), (r_5 1, .inl (cy 1, 40, .inr (.inl (fun _ => 0)))), (r_5 2, .inl (cy 1, 40, .inr (.inl (fun _ => 0)))), (r_5 3, .inl (cy 1, 40, .inr (.inl (fun _ => 0)))), (r_5 4, .inl (cy 1, 40, .inr (.inl (fun _ => 0)))), (r_5 5, .inl (cy 1, 40, .inr (.inl (fun _ => 0)))), (r_5 6, .inl (cy 1, 40, .inr (.inl (fun _ => 0)))), (r_5 7, .inl (cy 1, 40, .inr (.inl (fun _ => 0)))), (q_6, .inl (cy 1, 40, .inr (.inl (fun _ => 0)))), (q_7, .inl (cy 0, 8, .inl (fun _ => 0))), (q_8, .inl (cy 0, 8, .inl (fun _ => 0))), (q_9, .inl (cy 0, 250, .inl (fun _ => 0))), (q_10, .inl (cy 0, 8, .inl (fun _ => 0))), (q_11, .inl (cy 3, 8, .inr (.inr (.inr (.inr (fun i => if i < 8 then some (r_12 i) else none)))))), (r_12 0, .inl (cy 0, 4, .inl (fun _ => 0))), (r_12 1, .inl (cy 0, 4, .inl (fun _ => 0))), (r_12 2, .inl (cy 0, 4, .inl (fun _ => 0))), (r_12 3, .inl (cy 0, 4, .inl (fun _ => 0))), (r_12 4, .inl (cy 0, 4, .inl (fun _ => 0))), (r_12 5, .inl (cy 0, 4, .inl (fun _ => 0))), (r_12 6, .inl (cy 0, 4, .inl (fun _ => 0))), (r_12 7, .inl (cy 0, 4, .inl (fun _ => 0))), (q_13, .inl (cy 3, 8, .inr (.inr (.inr (.inr (fun i => if i < 8 then some (r_14 i) else none)))))), (r_14 0, .inl (cy 0, 5, .inl (fun _ => 0))), (r_14 1, .inl (cy 0, 5, .inl (fun _ => 0))), (r_14 2, .inl (cy 0, 5, .inl (fun _ => 0))), (r_14 3, .inl (cy 0, 5, .inl (fun _ => 0))), (r_14 4, .inl (cy 0, 5, .inl (fun _ => 0))), (r_14 5, .inl (cy 0, 5, .inl (fun _ => 0))), (r_14 6, .inl (cy 0, 5, .inl (fun _ => 0))), (r_14 7, .inl (cy 0, 5, .inl (fun _ => 0))), (q_15, .inl (cy 3, 8, .inr (.inr (.inr (.inr (fun i => if i < 8 then some (r_16 i) else none)))))), (r_16 0, .inl (cy 0, 8, .inl (fun _ => 0))), (r_16 1, .inl (cy 0, 8, .inl (fun _ => 0))), (r_16 2, .inl (cy 0, 8, .inl (fun _ => 0))), (r_16 3, .inl (cy 0, 8, .inl (fun _ => 0))), (r_16 4, .inl (cy 0, 8, .inl (fun _ => 0))), (r_16 5, .inl (cy 0, 8, .inl (fun _ => 0))), (r_16 6, .inl (cy 0, 8, .inl (fun _ => 0))), (r_16 7, .inl (cy 0, 8, .inl (fun _ => 0))), (q_17, .inl (cy 0, 3, .inl (fun _ => 0))), (q_18, .inl (cy 0, 8, .inl (fun _ => 0))), (q_19, .inl (cy 0, 5, .inl (fun _ => 0))), (q_20, .inl (cy 0, 5, .inl (fun _ => 0)))] H := hP
  have hD : va_D A [(qm, .inr (5, [.ref q_1, .ref q_2, .ref q_3, .ref q_4, .ref q_6, .ref q_7, .ref q_8, .ref q_9, .int 0, .ref q_10, .int 0, .ref q_11, .int 0, .ref q_13, .ref q_15, .int 0, .int 0, .int 1, .null, .null, .int 0, .int 0, .int 0, .long 0, .int 0, .ref q_17, .int 0, .int 0, .int 0, .null, .ref q_18, .ref q_19, .ref q_20, .null, .int 0])), (q_1, .inl (cy 0, 8, .inl (fun _ => 0))), (q_2, .inl (cy 0, 8, .inl (fun _ => 0))), (q_3, .inl (cy 0, 8, .inl (fun _ => 0))), (q_4, .inl (cy 4, 8, .inr (.inr (.inr (.inr (fun i => if i < 8 then some (r_5 i) else none)))))), (r_5 0, .inl (cy 1, 40, .inr (.inl (fun _ => 0)))), (r_5 1, .inl (cy 1, 40, .inr (.inl (fun _ => 0)))), (r_5 2, .inl (cy 1, 40, .inr (.inl (fun _ => 0)))), (r_5 3, .inl (cy 1, 40, .inr (.inl (fun _ => 0)))), (r_5 4, .inl (cy 1, 40, .inr (.inl (fun _ => 0)))), (r_5 5, .inl (cy 1, 40, .inr (.inl (fun _ => 0)))), (r_5 6, .inl (cy 1, 40, .inr (.inl (fun _ => 0)))), (r_5 7, .inl (cy 1, 40, .inr (.inl (fun _ => 0)))), (q_6, .inl (cy 1, 40, .inr (.inl (fun _ => 0)))), (q_7, .inl (cy 0, 8, .inl (fun _ => 0))), (q_8, .inl (cy 0, 8, .inl (fun _ => 0))), (q_9, .inl (cy 0, 250, .inl (fun _ => 0))), (q_10, .inl (cy 0, 8, .inl (fun _ => 0))), (q_11, .inl (cy 3, 8, .inr (.inr (.inr (.inr (fun i => if i < 8 then some (r_12 i) else none)))))), (r_12 0, .inl (cy 0, 4, .inl (fun _ => 0))), (r_12 1, .inl (cy 0, 4, .inl (fun _ => 0))), (r_12 2, .inl (cy 0, 4, .inl (fun _ => 0))), (r_12 3, .inl (cy 0, 4, .inl (fun _ => 0))), (r_12 4, .inl (cy 0, 4, .inl (fun _ => 0))), (r_12 5, .inl (cy 0, 4, .inl (fun _ => 0))), (r_12 6, .inl (cy 0, 4, .inl (fun _ => 0))), (r_12 7, .inl (cy 0, 4, .inl (fun _ => 0))), (q_13, .inl (cy 3, 8, .inr (.inr (.inr (.inr (fun i => if i < 8 then some (r_14 i) else none)))))), (r_14 0, .inl (cy 0, 5, .inl (fun _ => 0))), (r_14 1, .inl (cy 0, 5, .inl (fun _ => 0))), (r_14 2, .inl (cy 0, 5, .inl (fun _ => 0))), (r_14 3, .inl (cy 0, 5, .inl (fun _ => 0))), (r_14 4, .inl (cy 0, 5, .inl (fun _ => 0))), (r_14 5, .inl (cy 0, 5, .inl (fun _ => 0))), (r_14 6, .inl (cy 0, 5, .inl (fun _ => 0))), (r_14 7, .inl (cy 0, 5, .inl (fun _ => 0))), (q_15, .inl (cy 3, 8, .inr (.inr (.inr (.inr (fun i => if i < 8 then some (r_16 i) else none)))))), (r_16 0, .inl (cy 0, 8, .inl (fun _ => 0))), (r_16 1, .inl (cy 0, 8, .inl (fun _ => 0))), (r_16 2, .inl (cy 0, 8, .inl (fun _ => 0))), (r_16 3, .inl (cy 0, 8, .inl (fun _ => 0))), (r_16 4, .inl (cy 0, 8, .inl (fun _ => 0))), (r_16 5, .inl (cy 0, 8, .inl (fun _ => 0))), (r_16 6, .inl (cy 0, 8, .inl (fun _ => 0))), (r_16 7, .inl (cy 0, 8, .inl (fun _ => 0))), (q_17, .inl (cy 0, 3, .inl (fun _ => 0))), (q_18, .inl (cy 0, 8, .inl (fun _ => 0))), (q_19, .inl (cy 0, 5, .inl (fun _ => 0))), (q_20, .inl (cy 0, 5, .inl (fun _ => 0)))] := hD
  refine lv_aload_n hx hb dX6_init_149 rfl (lv_at hl 0 rfl) ?_
  refine lv_bipush (v := 6) hx hb dX6_init_150 (by decide) ?_
  refine newM hx hb hts hown m_t848 hN hP hD hS hA 6 (by decide) (by decide) (Nat.le_of_ble_eq_true rfl) (Nat.le_of_ble_eq_true rfl) (Nat.le_of_ble_eq_true rfl) dX6_init_152 (fun q_21 H hP hD hS => ?_)
  have hP : va_P G CL [(qm, .inr (5, [.ref q_1, .ref q_2, .ref q_3, .ref q_4, .ref q_6, .ref q_7, .ref q_8, .ref q_9, .int 0, .ref q_10, .int 0, .ref q_11, .int 0, .ref q_13, .ref q_15, .int 0, .int 0, .int 1, .null, .null, .int 0, .int 0, .int 0, .long 0, .int 0, .ref q_17, .int 0, .int 0, .int 0, .null, .ref q_18, .ref q_19, .ref q_20, .null, .int 0])), (q_1, .inl (cy 0, 8, .inl (fun _ => 0))), (q_2, .inl (cy 0, 8, .inl (fun _ => 0))), (q_3, .inl (cy 0, 8, .inl (fun _ => 0))), (q_4, .inl (cy 4, 8, .inr (.inr (.inr (.inr (fun i => if i < 8 then some (r_5 i) else none)))))), (r_5 0, .inl (cy 1, 40, .inr (.inl (fun _ => 0)))), (r_5 1, .inl (cy 1, 40, .inr (.inl (fun _ => 0)))), (r_5 2, .inl (cy 1, 40, .inr (.inl (fun _ => 0)))), (r_5 3, .inl (cy 1, 40, .inr (.inl (fun _ => 0)))), (r_5 4, .inl (cy 1, 40, .inr (.inl (fun _ => 0)))), (r_5 5, .inl (cy 1, 40, .inr (.inl (fun _ => 0)))), (r_5 6, .inl (cy 1, 40, .inr (.inl (fun _ => 0)))), (r_5 7, .inl (cy 1, 40, .inr (.inl (fun _ => 0)))), (q_6, .inl (cy 1, 40, .inr (.inl (fun _ => 0)))), (q_7, .inl (cy 0, 8, .inl (fun _ => 0))), (q_8, .inl (cy 0, 8, .inl (fun _ => 0))), (q_9, .inl (cy 0, 250, .inl (fun _ => 0))), (q_10, .inl (cy 0, 8, .inl (fun _ => 0))), (q_11, .inl (cy 3, 8, .inr (.inr (.inr (.inr (fun i => if i < 8 then some (r_12 i) else none)))))), (r_12 0, .inl (cy 0, 4, .inl (fun _ => 0))), (r_12 1, .inl (cy 0, 4, .inl (fun _ => 0))), (r_12 2, .inl (cy 0, 4, .inl (fun _ => 0))), (r_12 3, .inl (cy 0, 4, .inl (fun _ => 0))), (r_12 4, .inl (cy 0, 4, .inl (fun _ => 0))), (r_12 5, .inl (cy 0, 4, .inl (fun _ => 0))), (r_12 6, .inl (cy 0, 4, .inl (fun _ => 0))), (r_12 7, .inl (cy 0, 4, .inl (fun _ => 0))), (q_13, .inl (cy 3, 8, .inr (.inr (.inr (.inr (fun i => if i < 8 then some (r_14 i) else none)))))), (r_14 0, .inl (cy 0, 5, .inl (fun _ => 0))), (r_14 1, .inl (cy 0, 5, .inl (fun _ => 0))), (r_14 2, .inl (cy 0, 5, .inl (fun _ => 0))), (r_14 3, .inl (cy 0, 5, .inl (fun _ => 0))), (r_14 4, .inl (cy 0, 5, .inl (fun _ => 0))), (r_14 5, .inl (cy 0, 5, .inl (fun _ => 0))), (r_14 6, .inl (cy 0, 5, .inl (fun _ => 0))), (r_14 7, .inl (cy 0, 5, .inl (fun _ => 0))), (q_15, .inl (cy 3, 8, .inr (.inr (.inr (.inr (fun i => if i < 8 then some (r_16 i) else none)))))), (r_16 0, .inl (cy 0, 8, .inl (fun _ => 0))), (r_16 1, .inl (cy 0, 8, .inl (fun _ => 0))), (r_16 2, .inl (cy 0, 8, .inl (fun _ => 0))), (r_16 3, .inl (cy 0, 8, .inl (fun _ => 0))), (r_16 4, .inl (cy 0, 8, .inl (fun _ => 0))), (r_16 5, .inl (cy 0, 8, .inl (fun _ => 0))), (r_16 6, .inl (cy 0, 8, .inl (fun _ => 0))), (r_16 7, .inl (cy 0, 8, .inl (fun _ => 0))), (q_17, .inl (cy 0, 3, .inl (fun _ => 0))), (q_18, .inl (cy 0, 8, .inl (fun _ => 0))), (q_19, .inl (cy 0, 5, .inl (fun _ => 0))), (q_20, .inl (cy 0, 5, .inl (fun _ => 0))), (q_21, .inl (cy 5, 6, .inr (.inr (.inr (.inr (fun _ => none))))))] H := hP
  have hD : va_D A [(qm, .inr (5, [.ref q_1, .ref q_2, .ref q_3, .ref q_4, .ref q_6, .ref q_7, .ref q_8, .ref q_9, .int 0, .ref q_10, .int 0, .ref q_11, .int 0, .ref q_13, .ref q_15, .int 0, .int 0, .int 1, .null, .null, .int 0, .int 0, .int 0, .long 0, .int 0, .ref q_17, .int 0, .int 0, .int 0, .null, .ref q_18, .ref q_19, .ref q_20, .null, .int 0])), (q_1, .inl (cy 0, 8, .inl (fun _ => 0))), (q_2, .inl (cy 0, 8, .inl (fun _ => 0))), (q_3, .inl (cy 0, 8, .inl (fun _ => 0))), (q_4, .inl (cy 4, 8, .inr (.inr (.inr (.inr (fun i => if i < 8 then some (r_5 i) else none)))))), (r_5 0, .inl (cy 1, 40, .inr (.inl (fun _ => 0)))), (r_5 1, .inl (cy 1, 40, .inr (.inl (fun _ => 0)))), (r_5 2, .inl (cy 1, 40, .inr (.inl (fun _ => 0)))), (r_5 3, .inl (cy 1, 40, .inr (.inl (fun _ => 0)))), (r_5 4, .inl (cy 1, 40, .inr (.inl (fun _ => 0)))), (r_5 5, .inl (cy 1, 40, .inr (.inl (fun _ => 0)))), (r_5 6, .inl (cy 1, 40, .inr (.inl (fun _ => 0)))), (r_5 7, .inl (cy 1, 40, .inr (.inl (fun _ => 0)))), (q_6, .inl (cy 1, 40, .inr (.inl (fun _ => 0)))), (q_7, .inl (cy 0, 8, .inl (fun _ => 0))), (q_8, .inl (cy 0, 8, .inl (fun _ => 0))), (q_9, .inl (cy 0, 250, .inl (fun _ => 0))), (q_10, .inl (cy 0, 8, .inl (fun _ => 0))), (q_11, .inl (cy 3, 8, .inr (.inr (.inr (.inr (fun i => if i < 8 then some (r_12 i) else none)))))), (r_12 0, .inl (cy 0, 4, .inl (fun _ => 0))), (r_12 1, .inl (cy 0, 4, .inl (fun _ => 0))), (r_12 2, .inl (cy 0, 4, .inl (fun _ => 0))), (r_12 3, .inl (cy 0, 4, .inl (fun _ => 0))), (r_12 4, .inl (cy 0, 4, .inl (fun _ => 0))), (r_12 5, .inl (cy 0, 4, .inl (fun _ => 0))), (r_12 6, .inl (cy 0, 4, .inl (fun _ => 0))), (r_12 7, .inl (cy 0, 4, .inl (fun _ => 0))), (q_13, .inl (cy 3, 8, .inr (.inr (.inr (.inr (fun i => if i < 8 then some (r_14 i) else none)))))), (r_14 0, .inl (cy 0, 5, .inl (fun _ => 0))), (r_14 1, .inl (cy 0, 5, .inl (fun _ => 0))), (r_14 2, .inl (cy 0, 5, .inl (fun _ => 0))), (r_14 3, .inl (cy 0, 5, .inl (fun _ => 0))), (r_14 4, .inl (cy 0, 5, .inl (fun _ => 0))), (r_14 5, .inl (cy 0, 5, .inl (fun _ => 0))), (r_14 6, .inl (cy 0, 5, .inl (fun _ => 0))), (r_14 7, .inl (cy 0, 5, .inl (fun _ => 0))), (q_15, .inl (cy 3, 8, .inr (.inr (.inr (.inr (fun i => if i < 8 then some (r_16 i) else none)))))), (r_16 0, .inl (cy 0, 8, .inl (fun _ => 0))), (r_16 1, .inl (cy 0, 8, .inl (fun _ => 0))), (r_16 2, .inl (cy 0, 8, .inl (fun _ => 0))), (r_16 3, .inl (cy 0, 8, .inl (fun _ => 0))), (r_16 4, .inl (cy 0, 8, .inl (fun _ => 0))), (r_16 5, .inl (cy 0, 8, .inl (fun _ => 0))), (r_16 6, .inl (cy 0, 8, .inl (fun _ => 0))), (r_16 7, .inl (cy 0, 8, .inl (fun _ => 0))), (q_17, .inl (cy 0, 3, .inl (fun _ => 0))), (q_18, .inl (cy 0, 8, .inl (fun _ => 0))), (q_19, .inl (cy 0, 5, .inl (fun _ => 0))), (q_20, .inl (cy 0, 5, .inl (fun _ => 0))), (q_21, .inl (cy 5, 6, .inr (.inr (.inr (.inr (fun _ => none))))))] := hD
  refine W.widen (k := 49) (n := 853) (Nat.le_of_ble_eq_true rfl) (Nat.le_of_ble_eq_true rfl) ?_
  refine va_putF (D := G) (ci := 5) (v := .ref q_21) (ty := (.array (.object "EachBookOnceModel"))) (C := RX6) (T := TX6) (N := 35) hx hb hts iX_X6 tyX6 tyX6_ok nmX6 hown hK hP hD hS 0 rfl rfl 33 (by decide) (hts _ m_t883) (fun _ h9 => h9) rfl hin rfl (by decide +kernel) rfl rfl (Nat.le_of_ble_eq_true rfl) dX6_init_155 (fun H locs hP hD hS => ?_)
  have hP : va_P G CL [(qm, .inr (5, [.ref q_1, .ref q_2, .ref q_3, .ref q_4, .ref q_6, .ref q_7, .ref q_8, .ref q_9, .int 0, .ref q_10, .int 0, .ref q_11, .int 0, .ref q_13, .ref q_15, .int 0, .int 0, .int 1, .null, .null, .int 0, .int 0, .int 0, .long 0, .int 0, .ref q_17, .int 0, .int 0, .int 0, .null, .ref q_18, .ref q_19, .ref q_20, .ref q_21, .int 0])), (q_1, .inl (cy 0, 8, .inl (fun _ => 0))), (q_2, .inl (cy 0, 8, .inl (fun _ => 0))), (q_3, .inl (cy 0, 8, .inl (fun _ => 0))), (q_4, .inl (cy 4, 8, .inr (.inr (.inr (.inr (fun i => if i < 8 then some (r_5 i) else none)))))), (r_5 0, .inl (cy 1, 40, .inr (.inl (fun _ => 0)))), (r_5 1, .inl (cy 1, 40, .inr (.inl (fun _ => 0)))), (r_5 2, .inl (cy 1, 40, .inr (.inl (fun _ => 0)))), (r_5 3, .inl (cy 1, 40, .inr (.inl (fun _ => 0)))), (r_5 4, .inl (cy 1, 40, .inr (.inl (fun _ => 0)))), (r_5 5, .inl (cy 1, 40, .inr (.inl (fun _ => 0)))), (r_5 6, .inl (cy 1, 40, .inr (.inl (fun _ => 0)))), (r_5 7, .inl (cy 1, 40, .inr (.inl (fun _ => 0)))), (q_6, .inl (cy 1, 40, .inr (.inl (fun _ => 0)))), (q_7, .inl (cy 0, 8, .inl (fun _ => 0))), (q_8, .inl (cy 0, 8, .inl (fun _ => 0))), (q_9, .inl (cy 0, 250, .inl (fun _ => 0))), (q_10, .inl (cy 0, 8, .inl (fun _ => 0))), (q_11, .inl (cy 3, 8, .inr (.inr (.inr (.inr (fun i => if i < 8 then some (r_12 i) else none)))))), (r_12 0, .inl (cy 0, 4, .inl (fun _ => 0))), (r_12 1, .inl (cy 0, 4, .inl (fun _ => 0))), (r_12 2, .inl (cy 0, 4, .inl (fun _ => 0))), (r_12 3, .inl (cy 0, 4, .inl (fun _ => 0))), (r_12 4, .inl (cy 0, 4, .inl (fun _ => 0))), (r_12 5, .inl (cy 0, 4, .inl (fun _ => 0))), (r_12 6, .inl (cy 0, 4, .inl (fun _ => 0))), (r_12 7, .inl (cy 0, 4, .inl (fun _ => 0))), (q_13, .inl (cy 3, 8, .inr (.inr (.inr (.inr (fun i => if i < 8 then some (r_14 i) else none)))))), (r_14 0, .inl (cy 0, 5, .inl (fun _ => 0))), (r_14 1, .inl (cy 0, 5, .inl (fun _ => 0))), (r_14 2, .inl (cy 0, 5, .inl (fun _ => 0))), (r_14 3, .inl (cy 0, 5, .inl (fun _ => 0))), (r_14 4, .inl (cy 0, 5, .inl (fun _ => 0))), (r_14 5, .inl (cy 0, 5, .inl (fun _ => 0))), (r_14 6, .inl (cy 0, 5, .inl (fun _ => 0))), (r_14 7, .inl (cy 0, 5, .inl (fun _ => 0))), (q_15, .inl (cy 3, 8, .inr (.inr (.inr (.inr (fun i => if i < 8 then some (r_16 i) else none)))))), (r_16 0, .inl (cy 0, 8, .inl (fun _ => 0))), (r_16 1, .inl (cy 0, 8, .inl (fun _ => 0))), (r_16 2, .inl (cy 0, 8, .inl (fun _ => 0))), (r_16 3, .inl (cy 0, 8, .inl (fun _ => 0))), (r_16 4, .inl (cy 0, 8, .inl (fun _ => 0))), (r_16 5, .inl (cy 0, 8, .inl (fun _ => 0))), (r_16 6, .inl (cy 0, 8, .inl (fun _ => 0))), (r_16 7, .inl (cy 0, 8, .inl (fun _ => 0))), (q_17, .inl (cy 0, 3, .inl (fun _ => 0))), (q_18, .inl (cy 0, 8, .inl (fun _ => 0))), (q_19, .inl (cy 0, 5, .inl (fun _ => 0))), (q_20, .inl (cy 0, 5, .inl (fun _ => 0))), (q_21, .inl (cy 5, 6, .inr (.inr (.inr (.inr (fun _ => none))))))] H := hP
  have hD : va_D A [(qm, .inr (5, [.ref q_1, .ref q_2, .ref q_3, .ref q_4, .ref q_6, .ref q_7, .ref q_8, .ref q_9, .int 0, .ref q_10, .int 0, .ref q_11, .int 0, .ref q_13, .ref q_15, .int 0, .int 0, .int 1, .null, .null, .int 0, .int 0, .int 0, .long 0, .int 0, .ref q_17, .int 0, .int 0, .int 0, .null, .ref q_18, .ref q_19, .ref q_20, .ref q_21, .int 0])), (q_1, .inl (cy 0, 8, .inl (fun _ => 0))), (q_2, .inl (cy 0, 8, .inl (fun _ => 0))), (q_3, .inl (cy 0, 8, .inl (fun _ => 0))), (q_4, .inl (cy 4, 8, .inr (.inr (.inr (.inr (fun i => if i < 8 then some (r_5 i) else none)))))), (r_5 0, .inl (cy 1, 40, .inr (.inl (fun _ => 0)))), (r_5 1, .inl (cy 1, 40, .inr (.inl (fun _ => 0)))), (r_5 2, .inl (cy 1, 40, .inr (.inl (fun _ => 0)))), (r_5 3, .inl (cy 1, 40, .inr (.inl (fun _ => 0)))), (r_5 4, .inl (cy 1, 40, .inr (.inl (fun _ => 0)))), (r_5 5, .inl (cy 1, 40, .inr (.inl (fun _ => 0)))), (r_5 6, .inl (cy 1, 40, .inr (.inl (fun _ => 0)))), (r_5 7, .inl (cy 1, 40, .inr (.inl (fun _ => 0)))), (q_6, .inl (cy 1, 40, .inr (.inl (fun _ => 0)))), (q_7, .inl (cy 0, 8, .inl (fun _ => 0))), (q_8, .inl (cy 0, 8, .inl (fun _ => 0))), (q_9, .inl (cy 0, 250, .inl (fun _ => 0))), (q_10, .inl (cy 0, 8, .inl (fun _ => 0))), (q_11, .inl (cy 3, 8, .inr (.inr (.inr (.inr (fun i => if i < 8 then some (r_12 i) else none)))))), (r_12 0, .inl (cy 0, 4, .inl (fun _ => 0))), (r_12 1, .inl (cy 0, 4, .inl (fun _ => 0))), (r_12 2, .inl (cy 0, 4, .inl (fun _ => 0))), (r_12 3, .inl (cy 0, 4, .inl (fun _ => 0))), (r_12 4, .inl (cy 0, 4, .inl (fun _ => 0))), (r_12 5, .inl (cy 0, 4, .inl (fun _ => 0))), (r_12 6, .inl (cy 0, 4, .inl (fun _ => 0))), (r_12 7, .inl (cy 0, 4, .inl (fun _ => 0))), (q_13, .inl (cy 3, 8, .inr (.inr (.inr (.inr (fun i => if i < 8 then some (r_14 i) else none)))))), (r_14 0, .inl (cy 0, 5, .inl (fun _ => 0))), (r_14 1, .inl (cy 0, 5, .inl (fun _ => 0))), (r_14 2, .inl (cy 0, 5, .inl (fun _ => 0))), (r_14 3, .inl (cy 0, 5, .inl (fun _ => 0))), (r_14 4, .inl (cy 0, 5, .inl (fun _ => 0))), (r_14 5, .inl (cy 0, 5, .inl (fun _ => 0))), (r_14 6, .inl (cy 0, 5, .inl (fun _ => 0))), (r_14 7, .inl (cy 0, 5, .inl (fun _ => 0))), (q_15, .inl (cy 3, 8, .inr (.inr (.inr (.inr (fun i => if i < 8 then some (r_16 i) else none)))))), (r_16 0, .inl (cy 0, 8, .inl (fun _ => 0))), (r_16 1, .inl (cy 0, 8, .inl (fun _ => 0))), (r_16 2, .inl (cy 0, 8, .inl (fun _ => 0))), (r_16 3, .inl (cy 0, 8, .inl (fun _ => 0))), (r_16 4, .inl (cy 0, 8, .inl (fun _ => 0))), (r_16 5, .inl (cy 0, 8, .inl (fun _ => 0))), (r_16 6, .inl (cy 0, 8, .inl (fun _ => 0))), (r_16 7, .inl (cy 0, 8, .inl (fun _ => 0))), (q_17, .inl (cy 0, 3, .inl (fun _ => 0))), (q_18, .inl (cy 0, 8, .inl (fun _ => 0))), (q_19, .inl (cy 0, 5, .inl (fun _ => 0))), (q_20, .inl (cy 0, 5, .inl (fun _ => 0))), (q_21, .inl (cy 5, 6, .inr (.inr (.inr (.inr (fun _ => none))))))] := hD
  exact endV (u := [(qm, .inr (5, [.ref q_1, .ref q_2, .ref q_3, .ref q_4, .ref q_6, .ref q_7, .ref q_8, .ref q_9, .int 0, .ref q_10, .int 0, .ref q_11, .int 0, .ref q_13, .ref q_15, .int 0, .int 0, .int 1, .null, .null, .int 0, .int 0, .int 0, .long 0, .int 0, .ref q_17, .int 0, .int 0, .int 0, .null, .ref q_18, .ref q_19, .ref q_20, .ref q_21, .int 0])), (q_1, .inl (cy 0, 8, .inl (fun _ => 0))), (q_2, .inl (cy 0, 8, .inl (fun _ => 0))), (q_3, .inl (cy 0, 8, .inl (fun _ => 0))), (q_7, .inl (cy 0, 8, .inl (fun _ => 0))), (q_8, .inl (cy 0, 8, .inl (fun _ => 0))), (q_9, .inl (cy 0, 250, .inl (fun _ => 0))), (q_10, .inl (cy 0, 8, .inl (fun _ => 0))), (q_4, .inl (cy 4, 8, .inr (.inr (.inr (.inr (fun i => if i < 8 then some (r_5 i) else none)))))), (r_5 0, .inl (cy 1, 40, .inr (.inl (fun _ => 0)))), (r_5 1, .inl (cy 1, 40, .inr (.inl (fun _ => 0)))), (r_5 2, .inl (cy 1, 40, .inr (.inl (fun _ => 0)))), (r_5 3, .inl (cy 1, 40, .inr (.inl (fun _ => 0)))), (r_5 4, .inl (cy 1, 40, .inr (.inl (fun _ => 0)))), (r_5 5, .inl (cy 1, 40, .inr (.inl (fun _ => 0)))), (r_5 6, .inl (cy 1, 40, .inr (.inl (fun _ => 0)))), (r_5 7, .inl (cy 1, 40, .inr (.inl (fun _ => 0)))), (q_11, .inl (cy 3, 8, .inr (.inr (.inr (.inr (fun i => if i < 8 then some (r_12 i) else none)))))), (r_12 0, .inl (cy 0, 4, .inl (fun _ => 0))), (r_12 1, .inl (cy 0, 4, .inl (fun _ => 0))), (r_12 2, .inl (cy 0, 4, .inl (fun _ => 0))), (r_12 3, .inl (cy 0, 4, .inl (fun _ => 0))), (r_12 4, .inl (cy 0, 4, .inl (fun _ => 0))), (r_12 5, .inl (cy 0, 4, .inl (fun _ => 0))), (r_12 6, .inl (cy 0, 4, .inl (fun _ => 0))), (r_12 7, .inl (cy 0, 4, .inl (fun _ => 0))), (q_13, .inl (cy 3, 8, .inr (.inr (.inr (.inr (fun i => if i < 8 then some (r_14 i) else none)))))), (r_14 0, .inl (cy 0, 5, .inl (fun _ => 0))), (r_14 1, .inl (cy 0, 5, .inl (fun _ => 0))), (r_14 2, .inl (cy 0, 5, .inl (fun _ => 0))), (r_14 3, .inl (cy 0, 5, .inl (fun _ => 0))), (r_14 4, .inl (cy 0, 5, .inl (fun _ => 0))), (r_14 5, .inl (cy 0, 5, .inl (fun _ => 0))), (r_14 6, .inl (cy 0, 5, .inl (fun _ => 0))), (r_14 7, .inl (cy 0, 5, .inl (fun _ => 0))), (q_15, .inl (cy 3, 8, .inr (.inr (.inr (.inr (fun i => if i < 8 then some (r_16 i) else none)))))), (r_16 0, .inl (cy 0, 8, .inl (fun _ => 0))), (r_16 1, .inl (cy 0, 8, .inl (fun _ => 0))), (r_16 2, .inl (cy 0, 8, .inl (fun _ => 0))), (r_16 3, .inl (cy 0, 8, .inl (fun _ => 0))), (r_16 4, .inl (cy 0, 8, .inl (fun _ => 0))), (r_16 5, .inl (cy 0, 8, .inl (fun _ => 0))), (r_16 6, .inl (cy 0, 8, .inl (fun _ => 0))), (r_16 7, .inl (cy 0, 8, .inl (fun _ => 0)))]) hx hb hr hlocks (hP.sub [0, 1, 2, 3, 14, 15, 16, 17, 4, 5, 6, 7, 8, 9, 10, 11, 12, 18, 19, 20, 21, 22, 23, 24, 25, 26, 27, 28, 29, 30, 31, 32, 33, 34, 35, 36, 37, 38, 39, 40, 41, 42, 43, 44] rfl) (hD.sub [0, 1, 2, 3, 14, 15, 16, 17, 4, 5, 6, 7, 8, 9, 10, 11, 12, 18, 19, 20, 21, 22, 23, 24, 25, 26, 27, 28, 29, 30, 31, 32, 33, 34, 35, 36, 37, 38, 39, 40, 41, 42, 43, 44] (by decide) rfl) hS ⟨q_1, q_2, q_3, q_6, q_7, q_8, q_9, q_10, q_4, q_11, q_13, q_15, q_17, q_18, q_19, q_20, q_21, r_5, r_12, r_14, r_16, rfl⟩ dX6_init_158
end
