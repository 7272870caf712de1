theorem dL_law_0 : decode cL_law 0 = .ok (.new 7, 3) := g_187 bL_law rfl
theorem dL_law_3 : decode cL_law 3 = .ok (.dup, 1) := g_89 bL_law rfl
theorem dL_law_4 : decode cL_law 4 = .ok (.invokespecial 9, 3) := g_183 bL_law rfl
theorem dL_law_7 : decode cL_law 7 = .ok (.astore_n 1, 1) := g_76 bL_law rfl
theorem dL_law_8 : decode cL_law 8 = .ok (.new 10, 3) := g_187 bL_law rfl
theorem dL_law_11 : decode cL_law 11 = .ok (.dup, 1) := g_89 bL_law rfl
theorem dL_law_12 : decode cL_law 12 = .ok (.invokespecial 12, 3) := g_183 bL_law rfl
theorem dL_law_15 : decode cL_law 15 = .ok (.astore_n 2, 1) := g_77 bL_law rfl
theorem dL_law_16 : decode cL_law 16 = .ok (.iconst 0, 1) := g_3 bL_law rfl
theorem dL_law_17 : decode cL_law 17 = .ok (.istore_n 3, 1) := g_62 bL_law rfl
theorem dL_law_18 : decode cL_law 18 = .ok (.iload_n 3, 1) := g_29 bL_law rfl
theorem dL_law_19 : decode cL_law 19 = .ok (.aload_n 0, 1) := g_42 bL_law rfl
theorem dL_law_20 : decode cL_law 20 = .ok (.arraylength, 1) := g_190 bL_law rfl
theorem dL_law_21 : decode cL_law 21 = .ok (.bipush 6, 2) := g_16 6 bL_law rfl rfl
theorem dL_law_23 : decode cL_law 23 = .ok (.isub, 1) := g_100 bL_law rfl
theorem dL_law_24 : decode cL_law 24 = .ok (.if_icmp .gt 1789, 3) := g_163 1789 bL_law rfl rfl
theorem dL_law_27 : decode cL_law 27 = .ok (.aload_n 0, 1) := g_42 bL_law rfl
theorem dL_law_28 : decode cL_law 28 = .ok (.iload_n 3, 1) := g_29 bL_law rfl
theorem dL_law_29 : decode cL_law 29 = .ok (.iaload, 1) := g_46 bL_law rfl
theorem dL_law_30 : decode cL_law 30 = .ok (.bipush 63, 2) := g_16 63 bL_law rfl rfl
theorem dL_law_32 : decode cL_law 32 = .ok (.iand, 1) := g_126 bL_law rfl
theorem dL_law_33 : decode cL_law 33 = .ok (.tableswitch 1774 0 48 #[211, 254, 327, 390, 423, 446, 489, 522, 555, 608, 641, 674, 687, 700, 733, 766, 799, 842, 875, 908, 941, 984, 1027, 1060, 1073, 1096, 1139, 1162, 1195, 1228, 1261, 1304, 1347, 1360, 1383, 1406, 1429, 1462, 1511, 1524, 1557, 1590, 1623, 1656, 1689, 1702, 1725, 1738, 1751], 211) := by decide +kernel
theorem dL_law_1810 : decode cL_law 1810 = .ok (.goto (-1792), 3) := g_167 63744 bL_law rfl rfl
set_option maxHeartbeats 8000000 in
set_option maxRecDepth 100000 in
theorem law_disp {p : Program} {l : Launch} {e : Env} {s : State} {m : MethodId} {below : List Frame} {meth : Method} {c : Code} {b L : Nat} {xs : Nat → Int32} {A : Nat → Prop} {G : va_G} {cy : Nat → ClassId} {aX aM rR rB rO rK : Nat → Nat} (j : Nat) (hj : j < 64) (hx : p.tables.exec = Jvm.exec) (hb : c.code = code) (hr : meth.sig.returnType = ret) (hml : c.maxLocals = 4) (hown : s.vm.findClass RL = some m.cls) (hts : ∀ w ∈ BIG, w.before #[Value.ref b] s = true) (hX : va_X b L xs s s.heap) (hbl : b < s.heap.size) (hlocks : meth.locks = false) (hN : KN G cy s) (hA : ∀ q : Nat, s.heap.size ≤ q → A q) (hAn : ∀ q : Nat, A q → s.heap.size ≤ q) (hbA : ¬ A b) (hSO : SO A s s.heap) {H : Heap} {locs : List Loc} {ls : Array Slot} {kI nC nS : Nat} (hkI : kI + 6 ≤ L) (hL : L ≤ 384) (hnC : nC + 250 ≤ 600000) (hnS : nS + 4440 ≤ 7302250) {iKp : Int32} {iYe : Int32} {iTv : Int32} {fR : Nat → Int32} {tA : TA} {tB : TA} {iL : Int32} {iBs : Int32} {tU : TA} {tV : TA} {fH : Nat → Int32} {fS : Nat → Int32} {fA : Nat → Int32} {gE : Nat → Int64} {kZ : Nat} {iT1 : Int32} {iT2 : Int32} {iT3 : Int32} {iT4 : Int32} {fB : Nat → Int32} {tD : TA} {fMh : Nat → Int32} {fMo : Nat → Int32} {fMz : Nat → Int32} {gMv : Nat → Int64} {fMk : Nat → Int32} {fMa : Nat → Int32} {fMt : Nat → Int32} {kY : Nat} {fMr : Nat → Int32} {fM3 : Nat → Int32} {fMu : Nat → Int32} {fMy : Nat → Int32} {fMb : Nat → Int32} {eR : Nat → Nat → Int64} {tM : TA} {iEn : Int32} {iTk : Int32} {uP : UM} {uU : UM} {kAt : Nat} {iTo : Int32} {iFr : Int32} {JFi : Int64} {iFa : Int32} {iSt : Int32} {iLv : Int32} {iWs : Int32} {wL : UL} {uS0 : UM} {uS1 : UM} {uS2 : UM} {uS3 : UM} {uS4 : UM} {iOm : Int32} (hP : va_P G CL ((XW cy aX iKp iYe iTv fR tA tB iL iBs tU tV fH fS fA gE kZ iT1 iT2 iT3 iT4 fB tD) ++ ((MK cy aM rR rB rO rK fMh fMo fMz gMv fMk fMa fMt kY fMr fM3 fMu fMy fMb eR tM iEn iTk uP uU kAt iTo iFr JFi iFa iSt iLv iWs wL uS0 uS1 uS2 uS3 uS4 iOm) ++ ((oM cy uU) ++ ((oL cy wL) ++ ((oM cy uP) ++ (oM cy uS0 ++ (oM cy uS1 ++ (oM cy uS2 ++ (oM cy uS3 ++ oM cy uS4))))))))) H) (hD : va_D A ((XW cy aX iKp iYe iTv fR tA tB iL iBs tU tV fH fS fA gE kZ iT1 iT2 iT3 iT4 fB tD) ++ ((MK cy aM rR rB rO rK fMh fMo fMz gMv fMk fMa fMt kY fMr fM3 fMu fMy fMb eR tM iEn iTk uP uU kAt iTo iFr JFi iFa iSt iLv iWs wL uS0 uS1 uS2 uS3 uS4 iOm) ++ ((oM cy uU) ++ ((oL cy wL) ++ ((oM cy uP) ++ (oM cy uS0 ++ (oM cy uS1 ++ (oM cy uS2 ++ (oM cy uS3 ++ oM cy uS4)))))))))) (hsX : SX tA tB tD fS kZ) (hsM : SM tM uP fMz fMa kY) (hLR : LR iKp tA tB fH fS fA gE kZ fMh fMo fMz fMk fMa eR kY tM uP fB fMt) (hS : va_S A s.heap H locs) (hl : lv_has ls 4 [(3, .int (nI kI)), (2, .ref (aM 0)), (1, .ref (aX 0)), (0, .ref b)]) (kk : ∀ (H : Heap) (locs : List Loc), LINV G cy A H aX aM rR rB rO rK → va_S A s.heap H locs → W p l e room_1 s m #[Value.ref b] below meth c H locs (nC + 250) (nS + 4440) (lw_Z below #[Value.ref b] s) (F0 m 1807 ls [])) : W p l e room_1 s m #[Value.ref b] below meth c H locs nC nS (lw_Z below #[Value.ref b] s) (F0 m 33 ls [.int (nI j)]) := by
  match j, hj with
  | 0, _ =>
    refine lv_tableIn (tgt := 244) (off := 211) hx hb dL_law_33 (by decide) (by decide) (by decide) (by decide) ?_
    exact law_0 hx hb hr hml hown hts hX hbl hlocks hN hA hAn hbA hSO hkI hL hnC hnS hP hD hsX hsM hLR hS hl kk
  | 1, _ =>
    refine lv_tableIn (tgt := 287) (off := 254) hx hb dL_law_33 (by decide) (by decide) (by decide) (by decide) ?_
    exact law_1 hx hb hr hml hown hts hX hbl hlocks hN hA hAn hbA hSO hkI hL hnC hnS hP hD hsX hsM hLR hS hl kk
  | 2, _ =>
    refine lv_tableIn (tgt := 360) (off := 327) hx hb dL_law_33 (by decide) (by decide) (by decide) (by decide) ?_
    exact law_2 hx hb hr hml hown hts hX hbl hlocks hN hA hAn hbA hSO hkI hL hnC hnS hP hD hsX hsM hLR hS hl kk
  | 3, _ =>
    refine lv_tableIn (tgt := 423) (off := 390) hx hb dL_law_33 (by decide) (by decide) (by decide) (by decide) ?_
    exact law_3 hx hb hr hml hown hts hX hbl hlocks hN hA hAn hbA hSO hkI hL hnC hnS hP hD hsX hsM hLR hS hl kk
  | 4, _ =>
    refine lv_tableIn (tgt := 456) (off := 423) hx hb dL_law_33 (by decide) (by decide) (by decide) (by decide) ?_
    exact law_4 hx hb hr hml hown hts hX hbl hlocks hN hA hAn hbA hSO hkI hL hnC hnS hP hD hsX hsM hLR hS hl kk
  | 5, _ =>
    refine lv_tableIn (tgt := 479) (off := 446) hx hb dL_law_33 (by decide) (by decide) (by decide) (by decide) ?_
    exact law_5 hx hb hr hml hown hts hX hbl hlocks hN hA hAn hbA hSO hkI hL hnC hnS hP hD hsX hsM hLR hS hl kk
  | 6, _ =>
    refine lv_tableIn (tgt := 522) (off := 489) hx hb dL_law_33 (by decide) (by decide) (by decide) (by decide) ?_
    exact law_6 hx hb hr hml hown hts hX hbl hlocks hN hA hAn hbA hSO hkI hL hnC hnS hP hD hsX hsM hLR hS hl kk
  | 7, _ =>
    refine lv_tableIn (tgt := 555) (off := 522) hx hb dL_law_33 (by decide) (by decide) (by decide) (by decide) ?_
    exact law_7 hx hb hr hml hown hts hX hbl hlocks hN hA hAn hbA hSO hkI hL hnC hnS hP hD hsX hsM hLR hS hl kk
  | 8, _ =>
    refine lv_tableIn (tgt := 588) (off := 555) hx hb dL_law_33 (by decide) (by decide) (by decide) (by decide) ?_
    exact law_8 hx hb hr hml hown hts hX hbl hlocks hN hA hAn hbA hSO hkI hL hnC hnS hP hD hsX hsM hLR hS hl kk
  | 9, _ =>
    refine lv_tableIn (tgt := 641) (off := 608) hx hb dL_law_33 (by decide) (by decide) (by decide) (by decide) ?_
    exact law_9 hx hb hr hml hown hts hX hbl hlocks hN hA hAn hbA hSO hkI hL hnC hnS hP hD hsX hsM hLR hS hl kk
  | 10, _ =>
    refine lv_tableIn (tgt := 674) (off := 641) hx hb dL_law_33 (by decide) (by decide) (by decide) (by decide) ?_
    exact law_10 hx hb hr hml hown hts hX hbl hlocks hN hA hAn hbA hSO hkI hL hnC hnS hP hD hsX hsM hLR hS hl kk
  | 11, _ =>
    refine lv_tableIn (tgt := 707) (off := 674) hx hb dL_law_33 (by decide) (by decide) (by decide) (by decide) ?_
    exact law_11 hx hb hr hml hown hts hX hbl hlocks hN hA hAn hbA hSO hkI hL hnC hnS hP hD hsX hsM hLR hS hl kk
  | 12, _ =>
    refine lv_tableIn (tgt := 720) (off := 687) hx hb dL_law_33 (by decide) (by decide) (by decide) (by decide) ?_
    exact law_12 hx hb hr hml hown hts hX hbl hlocks hN hA hAn hbA hSO hkI hL hnC hnS hP hD hsX hsM hLR hS hl kk
  | 13, _ =>
    refine lv_tableIn (tgt := 733) (off := 700) hx hb dL_law_33 (by decide) (by decide) (by decide) (by decide) ?_
    exact law_13 hx hb hr hml hown hts hX hbl hlocks hN hA hAn hbA hSO hkI hL hnC hnS hP hD hsX hsM hLR hS hl kk
  | 14, _ =>
    refine lv_tableIn (tgt := 766) (off := 733) hx hb dL_law_33 (by decide) (by decide) (by decide) (by decide) ?_
    exact law_14 hx hb hr hml hown hts hX hbl hlocks hN hA hAn hbA hSO hkI hL hnC hnS hP hD hsX hsM hLR hS hl kk
  | 15, _ =>
    refine lv_tableIn (tgt := 799) (off := 766) hx hb dL_law_33 (by decide) (by decide) (by decide) (by decide) ?_
    exact law_15 hx hb hr hml hown hts hX hbl hlocks hN hA hAn hbA hSO hkI hL hnC hnS hP hD hsX hsM hLR hS hl kk
  | 16, _ =>
    refine lv_tableIn (tgt := 832) (off := 799) hx hb dL_law_33 (by decide) (by decide) (by decide) (by decide) ?_
    exact law_16 hx hb hr hml hown hts hX hbl hlocks hN hA hAn hbA hSO hkI hL hnC hnS hP hD hsX hsM hLR hS hl kk
  | 17, _ =>
    refine lv_tableIn (tgt := 875) (off := 842) hx hb dL_law_33 (by decide) (by decide) (by decide) (by decide) ?_
    exact law_17 hx hb hr hml hown hts hX hbl hlocks hN hA hAn hbA hSO hkI hL hnC hnS hP hD hsX hsM hLR hS hl kk
  | 18, _ =>
    refine lv_tableIn (tgt := 908) (off := 875) hx hb dL_law_33 (by decide) (by decide) (by decide) (by decide) ?_
    exact law_18 hx hb hr hml hown hts hX hbl hlocks hN hA hAn hbA hSO hkI hL hnC hnS hP hD hsX hsM hLR hS hl kk
  | 19, _ =>
    refine lv_tableIn (tgt := 941) (off := 908) hx hb dL_law_33 (by decide) (by decide) (by decide) (by decide) ?_
    exact law_19 hx hb hr hml hown hts hX hbl hlocks hN hA hAn hbA hSO hkI hL hnC hnS hP hD hsX hsM hLR hS hl kk
  | 20, _ =>
    refine lv_tableIn (tgt := 974) (off := 941) hx hb dL_law_33 (by decide) (by decide) (by decide) (by decide) ?_
    exact law_20 hx hb hr hml hown hts hX hbl hlocks hN hA hAn hbA hSO hkI hL hnC hnS hP hD hsX hsM hLR hS hl kk
  | 21, _ =>
    refine lv_tableIn (tgt := 1017) (off := 984) hx hb dL_law_33 (by decide) (by decide) (by decide) (by decide) ?_
    exact law_21 hx hb hr hml hown hts hX hbl hlocks hN hA hAn hbA hSO hkI hL hnC hnS hP hD hsX hsM hLR hS hl kk
  | 22, _ =>
    refine lv_tableIn (tgt := 1060) (off := 1027) hx hb dL_law_33 (by decide) (by decide) (by decide) (by decide) ?_
    exact law_22 hx hb hr hml hown hts hX hbl hlocks hN hA hAn hbA hSO hkI hL hnC hnS hP hD hsX hsM hLR hS hl kk
  | 23, _ =>
    refine lv_tableIn (tgt := 1093) (off := 1060) hx hb dL_law_33 (by decide) (by decide) (by decide) (by decide) ?_
    exact law_23 hx hb hr hml hown hts hX hbl hlocks hN hA hAn hbA hSO hkI hL hnC hnS hP hD hsX hsM hLR hS hl kk
  | 24, _ =>
    refine lv_tableIn (tgt := 1106) (off := 1073) hx hb dL_law_33 (by decide) (by decide) (by decide) (by decide) ?_
    exact law_24 hx hb hr hml hown hts hX hbl hlocks hN hA hAn hbA hSO hkI hL hnC hnS hP hD hsX hsM hLR hS hl kk
  | 25, _ =>
    refine lv_tableIn (tgt := 1129) (off := 1096) hx hb dL_law_33 (by decide) (by decide) (by decide) (by decide) ?_
    exact law_25 hx hb hr hml hown hts hX hbl hlocks hN hA hAn hbA hSO hkI hL hnC hnS hP hD hsX hsM hLR hS hl kk
  | 26, _ =>
    refine lv_tableIn (tgt := 1172) (off := 1139) hx hb dL_law_33 (by decide) (by decide) (by decide) (by decide) ?_
    exact law_26 hx hb hr hml hown hts hX hbl hlocks hN hA hAn hbA hSO hkI hL hnC hnS hP hD hsX hsM hLR hS hl kk
  | 27, _ =>
    refine lv_tableIn (tgt := 1195) (off := 1162) hx hb dL_law_33 (by decide) (by decide) (by decide) (by decide) ?_
    exact law_27 hx hb hr hml hown hts hX hbl hlocks hN hA hAn hbA hSO hkI hL hnC hnS hP hD hsX hsM hLR hS hl kk
  | 28, _ =>
    refine lv_tableIn (tgt := 1228) (off := 1195) hx hb dL_law_33 (by decide) (by decide) (by decide) (by decide) ?_
    exact law_28 hx hb hr hml hown hts hX hbl hlocks hN hA hAn hbA hSO hkI hL hnC hnS hP hD hsX hsM hLR hS hl kk
  | 29, _ =>
    refine lv_tableIn (tgt := 1261) (off := 1228) hx hb dL_law_33 (by decide) (by decide) (by decide) (by decide) ?_
    exact law_29 hx hb hr hml hown hts hX hbl hlocks hN hA hAn hbA hSO hkI hL hnC hnS hP hD hsX hsM hLR hS hl kk
  | 30, _ =>
    refine lv_tableIn (tgt := 1294) (off := 1261) hx hb dL_law_33 (by decide) (by decide) (by decide) (by decide) ?_
    exact law_30 hx hb hr hml hown hts hX hbl hlocks hN hA hAn hbA hSO hkI hL hnC hnS hP hD hsX hsM hLR hS hl kk
  | 31, _ =>
    refine lv_tableIn (tgt := 1337) (off := 1304) hx hb dL_law_33 (by decide) (by decide) (by decide) (by decide) ?_
    exact law_31 hx hb hr hml hown hts hX hbl hlocks hN hA hAn hbA hSO hkI hL hnC hnS hP hD hsX hsM hLR hS hl kk
  | 32, _ =>
    refine lv_tableIn (tgt := 1380) (off := 1347) hx hb dL_law_33 (by decide) (by decide) (by decide) (by decide) ?_
    exact law_32 hx hb hr hml hown hts hX hbl hlocks hN hA hAn hbA hSO hkI hL hnC hnS hP hD hsX hsM hLR hS hl kk
  | 33, _ =>
    refine lv_tableIn (tgt := 1393) (off := 1360) hx hb dL_law_33 (by decide) (by decide) (by decide) (by decide) ?_
    exact law_33 hx hb hr hml hown hts hX hbl hlocks hN hA hAn hbA hSO hkI hL hnC hnS hP hD hsX hsM hLR hS hl kk
  | 34, _ =>
    refine lv_tableIn (tgt := 1416) (off := 1383) hx hb dL_law_33 (by decide) (by decide) (by decide) (by decide) ?_
    exact law_34 hx hb hr hml hown hts hX hbl hlocks hN hA hAn hbA hSO hkI hL hnC hnS hP hD hsX hsM hLR hS hl kk
  | 35, _ =>
    refine lv_tableIn (tgt := 1439) (off := 1406) hx hb dL_law_33 (by decide) (by decide) (by decide) (by decide) ?_
    exact law_35 hx hb hr hml hown hts hX hbl hlocks hN hA hAn hbA hSO hkI hL hnC hnS hP hD hsX hsM hLR hS hl kk
  | 36, _ =>
    refine lv_tableIn (tgt := 1462) (off := 1429) hx hb dL_law_33 (by decide) (by decide) (by decide) (by decide) ?_
    exact law_36 hx hb hr hml hown hts hX hbl hlocks hN hA hAn hbA hSO hkI hL hnC hnS hP hD hsX hsM hLR hS hl kk
  | 37, _ =>
    refine lv_tableIn (tgt := 1495) (off := 1462) hx hb dL_law_33 (by decide) (by decide) (by decide) (by decide) ?_
    exact law_37 hx hb hr hml hown hts hX hbl hlocks hN hA hAn hbA hSO hkI hL hnC hnS hP hD hsX hsM hLR hS hl kk
  | 38, _ =>
    refine lv_tableIn (tgt := 1544) (off := 1511) hx hb dL_law_33 (by decide) (by decide) (by decide) (by decide) ?_
    exact law_38 hx hb hr hml hown hts hX hbl hlocks hN hA hAn hbA hSO hkI hL hnC hnS hP hD hsX hsM hLR hS hl kk
  | 39, _ =>
    refine lv_tableIn (tgt := 1557) (off := 1524) hx hb dL_law_33 (by decide) (by decide) (by decide) (by decide) ?_
    exact law_39 hx hb hr hml hown hts hX hbl hlocks hN hA hAn hbA hSO hkI hL hnC hnS hP hD hsX hsM hLR hS hl kk
  | 40, _ =>
    refine lv_tableIn (tgt := 1590) (off := 1557) hx hb dL_law_33 (by decide) (by decide) (by decide) (by decide) ?_
    exact law_40 hx hb hr hml hown hts hX hbl hlocks hN hA hAn hbA hSO hkI hL hnC hnS hP hD hsX hsM hLR hS hl kk
  | 41, _ =>
    refine lv_tableIn (tgt := 1623) (off := 1590) hx hb dL_law_33 (by decide) (by decide) (by decide) (by decide) ?_
    exact law_41 hx hb hr hml hown hts hX hbl hlocks hN hA hAn hbA hSO hkI hL hnC hnS hP hD hsX hsM hLR hS hl kk
  | 42, _ =>
    refine lv_tableIn (tgt := 1656) (off := 1623) hx hb dL_law_33 (by decide) (by decide) (by decide) (by decide) ?_
    exact law_42 hx hb hr hml hown hts hX hbl hlocks hN hA hAn hbA hSO hkI hL hnC hnS hP hD hsX hsM hLR hS hl kk
  | 43, _ =>
    refine lv_tableIn (tgt := 1689) (off := 1656) hx hb dL_law_33 (by decide) (by decide) (by decide) (by decide) ?_
    exact law_43 hx hb hr hml hown hts hX hbl hlocks hN hA hAn hbA hSO hkI hL hnC hnS hP hD hsX hsM hLR hS hl kk
  | 44, _ =>
    refine lv_tableIn (tgt := 1722) (off := 1689) hx hb dL_law_33 (by decide) (by decide) (by decide) (by decide) ?_
    exact law_44 hx hb hr hml hown hts hX hbl hlocks hN hA hAn hbA hSO hkI hL hnC hnS hP hD hsX hsM hLR hS hl kk
  | 45, _ =>
    refine lv_tableIn (tgt := 1735) (off := 1702) hx hb dL_law_33 (by decide) (by decide) (by decide) (by decide) ?_
    exact law_45 hx hb hr hml hown hts hX hbl hlocks hN hA hAn hbA hSO hkI hL hnC hnS hP hD hsX hsM hLR hS hl kk
  | 46, _ =>
    refine lv_tableIn (tgt := 1758) (off := 1725) hx hb dL_law_33 (by decide) (by decide) (by decide) (by decide) ?_
    exact law_46 hx hb hr hml hown hts hX hbl hlocks hN hA hAn hbA hSO hkI hL hnC hnS hP hD hsX hsM hLR hS hl kk
  | 47, _ =>
    refine lv_tableIn (tgt := 1771) (off := 1738) hx hb dL_law_33 (by decide) (by decide) (by decide) (by decide) ?_
    exact law_47 hx hb hr hml hown hts hX hbl hlocks hN hA hAn hbA hSO hkI hL hnC hnS hP hD hsX hsM hLR hS hl kk
  | 48, _ =>
    refine lv_tableIn (tgt := 1784) (off := 1751) hx hb dL_law_33 (by decide) (by decide) (by decide) (by decide) ?_
    exact law_48 hx hb hr hml hown hts hX hbl hlocks hN hA hAn hbA hSO hkI hL hnC hnS hP hD hsX hsM hLR hS hl kk
  | j + 49, h =>
    refine lv_tableOut (tgt := 1807) hx hb dL_law_33 (Or.inr (by rw [nI_toInt (by omega)]; omega)) (by decide) ?_
    refine W.widen (k := nC + 250) (n := nS + 4440) (by omega) (by omega) ?_
    exact kk _ _ (linv_mk hP hD hsX hsM hLR) hS
theorem lp_more {kI L : Nat} (hk : kI < 2 ^ 30) (hL : L < 2 ^ 30) (h : ¬ Int32.ofNat L - 6 < nI kI) : kI + 6 ≤ L := by
  rw [Int32.lt_iff_toInt_lt] at h
  have e : (Int32.ofNat L - 6).toInt = (L : Int) - 6 := by
    rw [show (6 : Int32) = nI 6 from rfl, show Int32.ofNat L = nI L from rfl, pk_sub_toInt hL (by omega)]
    rfl
  rw [e, nI_toInt (by omega)] at h
  omega
set_option maxHeartbeats 4000000 in
set_option maxRecDepth 100000 in
theorem law_loop {p : Program} {l : Launch} {e : Env} {s : State} {m : MethodId} {below : List Frame} {meth : Method} {c : Code} {b L : Nat} {xs : Nat → Int32} {A : Nat → Prop} {G : va_G} {cy : Nat → ClassId} {aX aM rR rB rO rK : Nat → Nat} (hx : p.tables.exec = Jvm.exec) (hb : c.code = code) (hr : meth.sig.returnType = ret) (hml : c.maxLocals = 4) (hown : s.vm.findClass RL = some m.cls) (hts : ∀ w ∈ BIG, w.before #[Value.ref b] s = true) (hX : va_X b L xs s s.heap) (hbl : b < s.heap.size) (hlocks : meth.locks = false) (hN : KN G cy s) (hA : ∀ q : Nat, s.heap.size ≤ q → A q) (hAn : ∀ q : Nat, A q → s.heap.size ≤ q) (hbA : ¬ A b) (hSO : SO A s s.heap) (hL : L ≤ 384) : ∀ (n kI nC nS : Nat) (H : Heap) (locs : List Loc) (ls : Array Slot), L < kI + 6 * n + 6 → kI ≤ 384 + 6 → nC + 250 * n ≤ 600000 → nS + 4440 * n ≤ 7302250 → LINV G cy A H aX aM rR rB rO rK → va_S A s.heap H locs → lv_has ls 4 [(3, .int (nI kI)), (2, .ref (aM 0)), (1, .ref (aX 0)), (0, .ref b)] → W p l e room_1 s m #[Value.ref b] below meth c H locs nC nS (lw_Z below #[Value.ref b] s) (F0 m 18 ls []) := by
  intro n
  induction n with
  | zero =>
    intro kI nC nS H locs ls hm hk hc hs hI hS hl
    refine lv_iload_n hx hb dL_law_18 rfl (lv_at hl 0 rfl) ?_
    refine lv_aload_n hx hb dL_law_19 rfl (lv_at hl 3 rfl) ?_
    refine va_slen hx hb hX hbl hbA hS dL_law_20 ?_
    refine lv_bipush (v := 6) hx hb dL_law_21 (by decide) ?_
    refine lv_isub hx hb dL_law_23 ?_
    refine lv_icmp_gt (tgt := 1813) hx hb dL_law_24 (by decide) (fun _ => ?_) (fun h9 => absurd (lp_more (by omega) (by omega) h9) (by omega))
    exact law_end hx hb hr hlocks hAn hS (by omega) (by omega)
  | succ n ih =>
    intro kI nC nS H locs ls hm hk hc hs hI hS hl
    refine lv_iload_n hx hb dL_law_18 rfl (lv_at hl 0 rfl) ?_
    refine lv_aload_n hx hb dL_law_19 rfl (lv_at hl 3 rfl) ?_
    refine va_slen hx hb hX hbl hbA hS dL_law_20 ?_
    refine lv_bipush (v := 6) hx hb dL_law_21 (by decide) ?_
    refine lv_isub hx hb dL_law_23 ?_
    refine lv_icmp_gt (tgt := 1813) hx hb dL_law_24 (by decide) (fun _ => ?_) (fun h9 => ?_)
    · exact law_end hx hb hr hlocks hAn hS (by omega) (by omega)
    · have hkI : kI + 6 ≤ L := lp_more (by omega) (by omega) h9
      refine lv_aload_n hx hb dL_law_27 rfl (lv_at hl 3 rfl) ?_
      refine lv_iload_n hx hb dL_law_28 rfl (lv_at hl 0 rfl) ?_
      refine va_sld hx hb hX hbl hbA hS (vp_in_nI (by omega) (by omega)) dL_law_29 ?_
      refine lv_bipush (v := 63) hx hb dL_law_30 (by decide) ?_
      refine lv_iand hx hb dL_law_32 ?_
      obtain ⟨j, hj, ej⟩ := pk_andE (xs (nI kI).toNatClampNeg) (m := 63) 6 (by decide)
      refine lv_seti ej ?_
      obtain ⟨iKp, iYe, iTv, fR, tA, tB, iL, iBs, tU, tV, fH, fS, fA, gE, kZ, iT1, iT2, iT3, iT4, fB, tD, fMh, fMo, fMz, gMv, fMk, fMa, fMt, kY, fMr, fM3, fMu, fMy, fMb, eR, tM, iEn, iTk, uP, uU, kAt, iTo, iFr, JFi, iFa, iSt, iLv, iWs, wL, uS0, uS1, uS2, uS3, uS4, iOm, hP, hD, hsX, hsM, hLR⟩ := hI
      refine law_disp j hj hx hb hr hml hown hts hX hbl hlocks hN hA hAn hbA hSO hkI hL (by omega) (by omega) hP hD hsX hsM hLR hS hl (fun H locs hI hS => ?_)
      refine lv_iinc (v := nI (kI + 6)) (lv' := [(3, .int (nI (kI + 6))), (2, .ref (aM 0)), (1, .ref (aX 0)), (0, .ref b)]) hx hb dL_law_1807 hl (k := 0) rfl (nI_add kI 6) (by decide) rfl (fun ls hl => ?_)
      refine lv_goto (tgt := 18) hx hb dL_law_1810 (by decide) ?_
      exact ih (kI + 6) _ _ H locs ls (by omega) (by omega) (by omega) (by omega) hI hS hl
