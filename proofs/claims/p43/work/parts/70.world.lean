def XW (cy : Nat → ClassId) (aX : Nat → Nat) (iKp : Int32) (iYe : Int32) (iTv : Int32) (fR : Nat → Int32) (tA : TA) (tB : TA) (iL : Int32) (iBs : Int32) (tU : TA) (tV : TA) (fH : Nat → Int32) (fS : Nat → Int32) (fA : Nat → Int32) (gE : Nat → Int64) (kZ : Nat) (iT1 : Int32) (iT2 : Int32) (iT3 : Int32) (iT4 : Int32) (fB : Nat → Int32) (tD : TA) : va_W := [zzO (aX 0) 4 [.ref (aX 2), .ref (aX 11), .ref (aX 20), .ref (aX 39), .ref (aX 44), .ref (aX 1), .int iKp, .int iYe, .int iTv], zzI cy (aX 1) 5 fR, zzO (aX 2) 3 [.int (nI (T_nb tA)), .int (nI (T_np tA)), .int (wb (T_wh tA)), .int (wb (T_gn tA)), .int (T_sd tA), .ref (aX 3), .ref (aX 4), .ref (aX 5), .ref (aX 6), .ref (aX 7), .ref (aX 8), .ref (aX 9), .ref (aX 10)], zzI cy (aX 3) 8 (T_wo tA), zzI cy (aX 4) 8 (T_ne tA), zzI cy (aX 5) 8 (T_go tA), zzI cy (aX 6) 8 (T_ag tA), zzI cy (aX 7) 8 (T_re tA), zzI cy (aX 8) 8 (T_me tA), zzI cy (aX 9) 8 (T_te tA), zzI cy (aX 10) 64 (shF (T_kn tA)), zzO (aX 11) 3 [.int (nI (T_nb tB)), .int (nI (T_np tB)), .int (wb (T_wh tB)), .int (wb (T_gn tB)), .int (T_sd tB), .ref (aX 12), .ref (aX 13), .ref (aX 14), .ref (aX 15), .ref (aX 16), .ref (aX 17), .ref (aX 18), .ref (aX 19)], zzI cy (aX 12) 8 (T_wo tB), zzI cy (aX 13) 8 (T_ne tB), zzI cy (aX 14) 8 (T_go tB), zzI cy (aX 15) 8 (T_ag tB), zzI cy (aX 16) 8 (T_re tB), zzI cy (aX 17) 8 (T_me tB), zzI cy (aX 18) 8 (T_te tB), zzI cy (aX 19) 64 (shF (T_kn tB)), zzO (aX 20) 0 [.ref (aX 21), .ref (aX 30), .int iL, .int iBs], zzO (aX 21) 3 [.int (nI (T_nb tU)), .int (nI (T_np tU)), .int (wb (T_wh tU)), .int (wb (T_gn tU)), .int (T_sd tU), .ref (aX 22), .ref (aX 23), .ref (aX 24), .ref (aX 25), .ref (aX 26), .ref (aX 27), .ref (aX 28), .ref (aX 29)], zzI cy (aX 22) 8 (T_wo tU), zzI cy (aX 23) 8 (T_ne tU), zzI cy (aX 24) 8 (T_go tU), zzI cy (aX 25) 8 (T_ag tU), zzI cy (aX 26) 8 (T_re tU), zzI cy (aX 27) 8 (T_me tU), zzI cy (aX 28) 8 (T_te tU), zzI cy (aX 29) 64 (shF (T_kn tU)), zzO (aX 30) 3 [.int (nI (T_nb tV)), .int (nI (T_np tV)), .int (wb (T_wh tV)), .int (wb (T_gn tV)), .int (T_sd tV), .ref (aX 31), .ref (aX 32), .ref (aX 33), .ref (aX 34), .ref (aX 35), .ref (aX 36), .ref (aX 37), .ref (aX 38)], zzI cy (aX 31) 8 (T_wo tV), zzI cy (aX 32) 8 (T_ne tV), zzI cy (aX 33) 8 (T_go tV), zzI cy (aX 34) 8 (T_ag tV), zzI cy (aX 35) 8 (T_re tV), zzI cy (aX 36) 8 (T_me tV), zzI cy (aX 37) 8 (T_te tV), zzI cy (aX 38) 64 (shF (T_kn tV)), zzO (aX 39) 1 [.ref (aX 40), .ref (aX 41), .ref (aX 42), .ref (aX 43)], zzI cy (aX 40) 8 fH, zzI cy (aX 41) 8 fS, zzI cy (aX 42) 8 fA, zzJ cy (aX 43) 320 gE, zzO (aX 44) 2 [.ref (aX 45), .int (nI kZ), .int iT1, .int iT2, .int iT3, .int iT4, .ref (aX 46)], zzB cy (aX 45) 250 fB, zzO (aX 46) 3 [.int (nI (T_nb tD)), .int (nI (T_np tD)), .int (wb (T_wh tD)), .int (wb (T_gn tD)), .int (T_sd tD), .ref (aX 47), .ref (aX 48), .ref (aX 49), .ref (aX 50), .ref (aX 51), .ref (aX 52), .ref (aX 53), .ref (aX 54)], zzI cy (aX 47) 8 (T_wo tD), zzI cy (aX 48) 8 (T_ne tD), zzI cy (aX 49) 8 (T_go tD), zzI cy (aX 50) 8 (T_ag tD), zzI cy (aX 51) 8 (T_re tD), zzI cy (aX 52) 8 (T_me tD), zzI cy (aX 53) 8 (T_te tD), zzI cy (aX 54) 64 (shF (T_kn tD))]
def MK (cy : Nat → ClassId) (aM : Nat → Nat) (rR rB rO rK : Nat → Nat) (fMh : Nat → Int32) (fMo : Nat → Int32) (fMz : Nat → Int32) (gMv : Nat → Int64) (fMk : Nat → Int32) (fMa : Nat → Int32) (fMt : Nat → Int32) (kY : Nat) (fMr : Nat → Int32) (fM3 : Nat → Int32) (fMu : Nat → Int32) (fMy : Nat → Int32) (fMb : Nat → Int32) (eR : Nat → Nat → Int64) (tM : TA) (iEn : Int32) (iTk : Int32) (uP : UM) (uU : UM) (kAt : Nat) (iTo : Int32) (iFr : Int32) (JFi : Int64) (iFa : Int32) (iSt : Int32) (iLv : Int32) (iWs : Int32) (wL : UL) (uS0 : UM) (uS1 : UM) (uS2 : UM) (uS3 : UM) (uS4 : UM) (iOm : Int32) : va_W := [zzO (aM 0) 5 [.ref (aM 1), .ref (aM 2), .ref (aM 3), .ref (aM 14), .ref (aM 4), .ref (aM 5), .ref (aM 6), .ref (aM 7), .int (nI kY), .ref (aM 8), .int (nI (T_nb tM)), .ref (aM 15), .int (nI (T_np tM)), .ref (aM 16), .ref (aM 17), .int iEn, .int iTk, .int (T_sd tM), ov uP, ov uU, .int (nI kAt), .int iTo, .int iFr, .long JFi, .int iFa, .ref (aM 9), .int iSt, .int iLv, .int iWs, ovL wL, .ref (aM 10), .ref (aM 11), .ref (aM 12), .ref (aM 13), .int iOm], zzI cy (aM 1) 8 fMh, zzI cy (aM 2) 8 fMo, zzI cy (aM 3) 8 fMz, zzJ cy (aM 4) 40 gMv, zzI cy (aM 5) 8 fMk, zzI cy (aM 6) 8 fMa, zzI cy (aM 7) 250 fMt, zzI cy (aM 8) 8 fMr, zzI cy (aM 9) 3 fM3, zzI cy (aM 10) 8 fMu, zzI cy (aM 11) 5 fMy, zzI cy (aM 12) 5 fMb, zzQ cy 5 (aM 13) 6 (sF (refU uS0) (refU uS1) (refU uS2) (refU uS3) (refU uS4)), zzG cy 4 (aM 14) rR, zzJ cy (rR 0) 40 (eR 0), zzJ cy (rR 1) 40 (eR 1), zzJ cy (rR 2) 40 (eR 2), zzJ cy (rR 3) 40 (eR 3), zzJ cy (rR 4) 40 (eR 4), zzJ cy (rR 5) 40 (eR 5), zzJ cy (rR 6) 40 (eR 6), zzJ cy (rR 7) 40 (eR 7), zzG cy 3 (aM 15) rB, zzI cy (rB 0) 4 (bkR tM 0), zzI cy (rB 1) 4 (bkR tM 1), zzI cy (rB 2) 4 (bkR tM 2), zzI cy (rB 3) 4 (bkR tM 3), zzI cy (rB 4) 4 (bkR tM 4), zzI cy (rB 5) 4 (bkR tM 5), zzI cy (rB 6) 4 (bkR tM 6), zzI cy (rB 7) 4 (bkR tM 7), zzG cy 3 (aM 16) rO, zzI cy (rO 0) 5 (onR tM 0), zzI cy (rO 1) 5 (onR tM 1), zzI cy (rO 2) 5 (onR tM 2), zzI cy (rO 3) 5 (onR tM 3), zzI cy (rO 4) 5 (onR tM 4), zzI cy (rO 5) 5 (onR tM 5), zzI cy (rO 6) 5 (onR tM 6), zzI cy (rO 7) 5 (onR tM 7), zzG cy 3 (aM 17) rK, zzI cy (rK 0) 8 (T_kn tM 0), zzI cy (rK 1) 8 (T_kn tM 1), zzI cy (rK 2) 8 (T_kn tM 2), zzI cy (rK 3) 8 (T_kn tM 3), zzI cy (rK 4) 8 (T_kn tM 4), zzI cy (rK 5) 8 (T_kn tM 5), zzI cy (rK 6) 8 (T_kn tM 6), zzI cy (rK 7) 8 (T_kn tM 7)]
section PERM
variable {G : va_G} {H : Heap} {A : Nat → Prop} {a b c d k t x u l s p q w : va_W}
theorem rotP (h : va_P G CL (a ++ (b ++ (c ++ d))) H) : va_P G CL (a ++ (c ++ (b ++ d))) H := by
  have h1 : va_P G CL ((a ++ b) ++ (c ++ d)) H := by rw [List.append_assoc]; exact h
  have h2 := h1.swap
  have h3 : va_P G CL (((a ++ c) ++ d) ++ b) H := by rw [List.append_assoc a c d]; exact h2
  have h4 := h3.swap
  rw [List.append_assoc, List.append_assoc] at h4
  exact h4
theorem rotD (h : va_D A (a ++ (b ++ (c ++ d)))) : va_D A (a ++ (c ++ (b ++ d))) := by
  have h1 : va_D A ((a ++ b) ++ (c ++ d)) := by rw [List.append_assoc]; exact h
  have h2 := h1.swap
  have h3 : va_D A (((a ++ c) ++ d) ++ b) := by rw [List.append_assoc a c d]; exact h2
  have h4 := h3.swap
  rw [List.append_assoc, List.append_assoc] at h4
  exact h4
theorem toNP (h : va_P G CL (x ++ (k ++ t)) H) : va_P G CL (k ++ (t ++ x)) H := by
  have h0 := h
  have h1 : va_P G CL ([] ++ ((k ++ t) ++ (x ++ []))) H := rotP (a := []) (b := x) (c := (k ++ t)) (d := []) (by simpa only [List.append_assoc, List.nil_append, List.append_nil] using h0)
  simpa only [List.append_assoc, List.nil_append, List.append_nil] using h1
theorem toND (h : va_D A (x ++ (k ++ t))) : va_D A (k ++ (t ++ x)) := by
  have h0 := h
  have h1 : va_D A ([] ++ ((k ++ t) ++ (x ++ []))) := rotD (a := []) (b := x) (c := (k ++ t)) (d := []) (by simpa only [List.append_assoc, List.nil_append, List.append_nil] using h0)
  simpa only [List.append_assoc, List.nil_append, List.append_nil] using h1
theorem ofNP (h : va_P G CL (k ++ (t ++ x)) H) : va_P G CL (x ++ (k ++ t)) H := by
  have h0 := h
  have h1 : va_P G CL ([] ++ (x ++ ((k ++ t) ++ []))) H := rotP (a := []) (b := (k ++ t)) (c := x) (d := []) (by simpa only [List.append_assoc, List.nil_append, List.append_nil] using h0)
  simpa only [List.append_assoc, List.nil_append, List.append_nil] using h1
theorem ofND (h : va_D A (k ++ (t ++ x))) : va_D A (x ++ (k ++ t)) := by
  have h0 := h
  have h1 : va_D A ([] ++ (x ++ ((k ++ t) ++ []))) := rotD (a := []) (b := (k ++ t)) (c := x) (d := []) (by simpa only [List.append_assoc, List.nil_append, List.append_nil] using h0)
  simpa only [List.append_assoc, List.nil_append, List.append_nil] using h1
theorem toUP (h : va_P G CL (x ++ (k ++ (u ++ t))) H) : va_P G CL ((k ++ u) ++ (t ++ x)) H := by
  have h0 := h
  have h1 : va_P G CL ([] ++ ((k ++ (u ++ t)) ++ (x ++ []))) H := rotP (a := []) (b := x) (c := (k ++ (u ++ t))) (d := []) (by simpa only [List.append_assoc, List.nil_append, List.append_nil] using h0)
  simpa only [List.append_assoc, List.nil_append, List.append_nil] using h1
theorem toUD (h : va_D A (x ++ (k ++ (u ++ t)))) : va_D A ((k ++ u) ++ (t ++ x)) := by
  have h0 := h
  have h1 : va_D A ([] ++ ((k ++ (u ++ t)) ++ (x ++ []))) := rotD (a := []) (b := x) (c := (k ++ (u ++ t))) (d := []) (by simpa only [List.append_assoc, List.nil_append, List.append_nil] using h0)
  simpa only [List.append_assoc, List.nil_append, List.append_nil] using h1
theorem ofUP (h : va_P G CL (k ++ (u ++ (t ++ x))) H) : va_P G CL (x ++ (k ++ (u ++ t))) H := by
  have h0 := h
  have h1 : va_P G CL ([] ++ (x ++ ((k ++ (u ++ t)) ++ []))) H := rotP (a := []) (b := (k ++ (u ++ t))) (c := x) (d := []) (by simpa only [List.append_assoc, List.nil_append, List.append_nil] using h0)
  simpa only [List.append_assoc, List.nil_append, List.append_nil] using h1
theorem ofUD (h : va_D A (k ++ (u ++ (t ++ x)))) : va_D A (x ++ (k ++ (u ++ t))) := by
  have h0 := h
  have h1 : va_D A ([] ++ (x ++ ((k ++ (u ++ t)) ++ []))) := rotD (a := []) (b := (k ++ (u ++ t))) (c := x) (d := []) (by simpa only [List.append_assoc, List.nil_append, List.append_nil] using h0)
  simpa only [List.append_assoc, List.nil_append, List.append_nil] using h1
theorem toLP (h : va_P G CL (x ++ (k ++ (u ++ (l ++ t)))) H) : va_P G CL ((k ++ (u ++ l)) ++ (t ++ x)) H := by
  have h0 := h
  have h1 : va_P G CL ([] ++ ((k ++ (u ++ (l ++ t))) ++ (x ++ []))) H := rotP (a := []) (b := x) (c := (k ++ (u ++ (l ++ t)))) (d := []) (by simpa only [List.append_assoc, List.nil_append, List.append_nil] using h0)
  simpa only [List.append_assoc, List.nil_append, List.append_nil] using h1
theorem toLD (h : va_D A (x ++ (k ++ (u ++ (l ++ t))))) : va_D A ((k ++ (u ++ l)) ++ (t ++ x)) := by
  have h0 := h
  have h1 : va_D A ([] ++ ((k ++ (u ++ (l ++ t))) ++ (x ++ []))) := rotD (a := []) (b := x) (c := (k ++ (u ++ (l ++ t)))) (d := []) (by simpa only [List.append_assoc, List.nil_append, List.append_nil] using h0)
  simpa only [List.append_assoc, List.nil_append, List.append_nil] using h1
theorem ofLP (h : va_P G CL (k ++ ((u ++ l) ++ (t ++ x))) H) : va_P G CL (x ++ (k ++ (u ++ (l ++ t)))) H := by
  have h0 := h
  have h1 : va_P G CL ([] ++ (x ++ ((k ++ (u ++ (l ++ t))) ++ []))) H := rotP (a := []) (b := (k ++ (u ++ (l ++ t)))) (c := x) (d := []) (by simpa only [List.append_assoc, List.nil_append, List.append_nil] using h0)
  simpa only [List.append_assoc, List.nil_append, List.append_nil] using h1
theorem ofLD (h : va_D A (k ++ ((u ++ l) ++ (t ++ x)))) : va_D A (x ++ (k ++ (u ++ (l ++ t)))) := by
  have h0 := h
  have h1 : va_D A ([] ++ (x ++ ((k ++ (u ++ (l ++ t))) ++ []))) := rotD (a := []) (b := (k ++ (u ++ (l ++ t)))) (c := x) (d := []) (by simpa only [List.append_assoc, List.nil_append, List.append_nil] using h0)
  simpa only [List.append_assoc, List.nil_append, List.append_nil] using h1
theorem toPP (h : va_P G CL (x ++ (k ++ (u ++ (l ++ (p ++ s))))) H) : va_P G CL ((k ++ p) ++ (u ++ (l ++ (s ++ x)))) H := by
  have h0 := h
  have h1 : va_P G CL ([] ++ ((k ++ (u ++ (l ++ (p ++ s)))) ++ (x ++ []))) H := rotP (a := []) (b := x) (c := (k ++ (u ++ (l ++ (p ++ s))))) (d := []) (by simpa only [List.append_assoc, List.nil_append, List.append_nil] using h0)
  have h2 : va_P G CL (k ++ (p ++ ((u ++ l) ++ (s ++ x)))) H := rotP (a := k) (b := (u ++ l)) (c := p) (d := (s ++ x)) (by simpa only [List.append_assoc, List.nil_append, List.append_nil] using h1)
  simpa only [List.append_assoc, List.nil_append, List.append_nil] using h2
theorem toPD (h : va_D A (x ++ (k ++ (u ++ (l ++ (p ++ s)))))) : va_D A ((k ++ p) ++ (u ++ (l ++ (s ++ x)))) := by
  have h0 := h
  have h1 : va_D A ([] ++ ((k ++ (u ++ (l ++ (p ++ s)))) ++ (x ++ []))) := rotD (a := []) (b := x) (c := (k ++ (u ++ (l ++ (p ++ s))))) (d := []) (by simpa only [List.append_assoc, List.nil_append, List.append_nil] using h0)
  have h2 : va_D A (k ++ (p ++ ((u ++ l) ++ (s ++ x)))) := rotD (a := k) (b := (u ++ l)) (c := p) (d := (s ++ x)) (by simpa only [List.append_assoc, List.nil_append, List.append_nil] using h1)
  simpa only [List.append_assoc, List.nil_append, List.append_nil] using h2
theorem ofPP (h : va_P G CL (k ++ (p ++ (u ++ (l ++ (s ++ x))))) H) : va_P G CL (x ++ (k ++ (u ++ (l ++ (p ++ s))))) H := by
  have h0 := h
  have h1 : va_P G CL (k ++ ((u ++ l) ++ (p ++ (s ++ x)))) H := rotP (a := k) (b := p) (c := (u ++ l)) (d := (s ++ x)) (by simpa only [List.append_assoc, List.nil_append, List.append_nil] using h0)
  have h2 : va_P G CL ([] ++ (x ++ ((k ++ (u ++ (l ++ (p ++ s)))) ++ []))) H := rotP (a := []) (b := (k ++ (u ++ (l ++ (p ++ s))))) (c := x) (d := []) (by simpa only [List.append_assoc, List.nil_append, List.append_nil] using h1)
  simpa only [List.append_assoc, List.nil_append, List.append_nil] using h2
theorem ofPD (h : va_D A (k ++ (p ++ (u ++ (l ++ (s ++ x)))))) : va_D A (x ++ (k ++ (u ++ (l ++ (p ++ s))))) := by
  have h0 := h
  have h1 : va_D A (k ++ ((u ++ l) ++ (p ++ (s ++ x)))) := rotD (a := k) (b := p) (c := (u ++ l)) (d := (s ++ x)) (by simpa only [List.append_assoc, List.nil_append, List.append_nil] using h0)
  have h2 : va_D A ([] ++ (x ++ ((k ++ (u ++ (l ++ (p ++ s)))) ++ []))) := rotD (a := []) (b := (k ++ (u ++ (l ++ (p ++ s))))) (c := x) (d := []) (by simpa only [List.append_assoc, List.nil_append, List.append_nil] using h1)
  simpa only [List.append_assoc, List.nil_append, List.append_nil] using h2
theorem toSP (h : va_P G CL (x ++ (k ++ (u ++ (l ++ (p ++ s))))) H) : va_P G CL ((k ++ s) ++ (u ++ (l ++ (p ++ x)))) H := by
  have h0 := h
  have h1 : va_P G CL ([] ++ ((k ++ (u ++ (l ++ (p ++ s)))) ++ (x ++ []))) H := rotP (a := []) (b := x) (c := (k ++ (u ++ (l ++ (p ++ s))))) (d := []) (by simpa only [List.append_assoc, List.nil_append, List.append_nil] using h0)
  have h2 : va_P G CL (k ++ (s ++ ((u ++ (l ++ p)) ++ x))) H := rotP (a := k) (b := (u ++ (l ++ p))) (c := s) (d := x) (by simpa only [List.append_assoc, List.nil_append, List.append_nil] using h1)
  simpa only [List.append_assoc, List.nil_append, List.append_nil] using h2
theorem toSD (h : va_D A (x ++ (k ++ (u ++ (l ++ (p ++ s)))))) : va_D A ((k ++ s) ++ (u ++ (l ++ (p ++ x)))) := by
  have h0 := h
  have h1 : va_D A ([] ++ ((k ++ (u ++ (l ++ (p ++ s)))) ++ (x ++ []))) := rotD (a := []) (b := x) (c := (k ++ (u ++ (l ++ (p ++ s))))) (d := []) (by simpa only [List.append_assoc, List.nil_append, List.append_nil] using h0)
  have h2 : va_D A (k ++ (s ++ ((u ++ (l ++ p)) ++ x))) := rotD (a := k) (b := (u ++ (l ++ p))) (c := s) (d := x) (by simpa only [List.append_assoc, List.nil_append, List.append_nil] using h1)
  simpa only [List.append_assoc, List.nil_append, List.append_nil] using h2
theorem ofSP (h : va_P G CL (k ++ (s ++ (u ++ (l ++ (p ++ x))))) H) : va_P G CL (x ++ (k ++ (u ++ (l ++ (p ++ s))))) H := by
  have h0 := h
  have h1 : va_P G CL (k ++ ((u ++ (l ++ p)) ++ (s ++ x))) H := rotP (a := k) (b := s) (c := (u ++ (l ++ p))) (d := x) (by simpa only [List.append_assoc, List.nil_append, List.append_nil] using h0)
  have h2 : va_P G CL ([] ++ (x ++ ((k ++ (u ++ (l ++ (p ++ s)))) ++ []))) H := rotP (a := []) (b := (k ++ (u ++ (l ++ (p ++ s))))) (c := x) (d := []) (by simpa only [List.append_assoc, List.nil_append, List.append_nil] using h1)
  simpa only [List.append_assoc, List.nil_append, List.append_nil] using h2
theorem ofSD (h : va_D A (k ++ (s ++ (u ++ (l ++ (p ++ x)))))) : va_D A (x ++ (k ++ (u ++ (l ++ (p ++ s))))) := by
  have h0 := h
  have h1 : va_D A (k ++ ((u ++ (l ++ p)) ++ (s ++ x))) := rotD (a := k) (b := s) (c := (u ++ (l ++ p))) (d := x) (by simpa only [List.append_assoc, List.nil_append, List.append_nil] using h0)
  have h2 : va_D A ([] ++ (x ++ ((k ++ (u ++ (l ++ (p ++ s)))) ++ []))) := rotD (a := []) (b := (k ++ (u ++ (l ++ (p ++ s))))) (c := x) (d := []) (by simpa only [List.append_assoc, List.nil_append, List.append_nil] using h1)
  simpa only [List.append_assoc, List.nil_append, List.append_nil] using h2
end PERM
def SX (tA tB tD : TA) (fS : Nat → Int32) (kZ : Nat) : Prop := (T_nb tA ≤ 8 ∧ T_np tA ≤ 8) ∧ (T_nb tB ≤ 8 ∧ T_np tB ≤ 8) ∧ T_nb tD ≤ 8 ∧ (∀ s, s < 8 → ∃ n : Nat, n ≤ 40 ∧ fS s = nI n) ∧ kZ ≤ 250
def SM (tM : TA) (uP : UM) (fMz fMa : Nat → Int32) (kY : Nat) : Prop := TI tM ∧ (isS uP = true → TI (uT uP)) ∧ (∀ s, s < 8 → ∃ n : Nat, n ≤ 40 ∧ fMz s = nI n) ∧ (∀ s, s < 8 → ∃ n : Nat, n ≤ 99 ∧ fMa s = nI n) ∧ kY ≤ 250
/-! the towns are one town: what each call leaves of that -/
def TWR (tA tB : TA) (fB : Nat → Int32) (kZ : Nat) (fMt : Nat → Int32) (kY : Nat) (tM : TA) (uP : UM) : Prop := tA = tM ∧ WI tM ∧ (isS uP = true → tB = uT uP ∧ WI (uT uP)) ∧ nbf fB kZ = nbf fMt kY
theorem k_eq {k k' n : Nat} {a : Int32} (hn : n ≤ 8) (hk : k < n) (hk' : k' < n) (e : a = nI k) (e' : a = nI k') : k' = k := nI_inj (by omega) (by omega) (e'.symm.trans e)
section TW
variable {tA tM t1 t2 : TA} {a b c d r r' : Int32}
theorem book_k (e : tA = tM) (h1 : PXbook tA a b r t1) (h2 : PXbook tM a b r' t2) : r = r' ∧ t1 = t2 := by
  subst e
  rcases h1 with ⟨e1, c1, f1⟩ | ⟨e1, c1, d1, g1, f1⟩ | ⟨e1, c1, d1, g1, f1⟩
  · rcases h2 with ⟨e2, c2, f2⟩ | ⟨e2, c2, d2, g2, f2⟩ | ⟨e2, c2, d2, g2, f2⟩
    · exact ⟨e1.trans e2.symm, f1.trans f2.symm⟩
    · exact absurd ⟨c2, d2⟩ c1
    · exact absurd ⟨c2, d2⟩ c1
  · rcases h2 with ⟨e2, c2, f2⟩ | ⟨e2, c2, d2, g2, f2⟩ | ⟨e2, c2, d2, g2, f2⟩
    · exact absurd ⟨c1, d1⟩ c2
    · exact ⟨e1.trans e2.symm, f1.trans f2.symm⟩
    · exact absurd g2 g1
  · rcases h2 with ⟨e2, c2, f2⟩ | ⟨e2, c2, d2, g2, f2⟩ | ⟨e2, c2, d2, g2, f2⟩
    · exact absurd ⟨c1, d1⟩ c2
    · exact absurd g1 g2
    · exact ⟨e1.trans e2.symm, f1.trans f2.symm⟩
theorem one_k (e : tA = tM) (h1 : PXone tA a b c d r t1) (h2 : PXone tM a b c d r' t2) : r = r' ∧ t1 = t2 := by
  subst e
  rcases h1 with ⟨e1, c1, f1⟩ | ⟨e1, c1, g1, f1⟩ | ⟨e1, c1, g1, f1⟩
  · rcases h2 with ⟨e2, c2, f2⟩ | ⟨e2, c2, g2, f2⟩ | ⟨e2, c2, g2, f2⟩
    · exact ⟨e1.trans e2.symm, f1.trans f2.symm⟩
    · exact absurd c2 c1
    · exact absurd c2 c1
  · rcases h2 with ⟨e2, c2, f2⟩ | ⟨e2, c2, g2, f2⟩ | ⟨e2, c2, g2, f2⟩
    · exact absurd c1 c2
    · exact ⟨e1.trans e2.symm, f1.trans f2.symm⟩
    · exact absurd g2 g1
  · rcases h2 with ⟨e2, c2, f2⟩ | ⟨e2, c2, g2, f2⟩ | ⟨e2, c2, g2, f2⟩
    · exact absurd c1 c2
    · exact absurd g1 g2
    · exact ⟨e1.trans e2.symm, f1.trans f2.symm⟩
theorem alter_k (e : tA = tM) (hn : T_nb tM ≤ 8 ∧ T_np tM ≤ 8) (h1 : PXalter tA a b c r t1) (h2 : PXalter tM a b c r' t2) : r = r' ∧ t1 = t2 := by
  subst e
  rcases h1 with ⟨e1, c1, f1⟩ | ⟨k, m, hk, hm, ek, em, iv, h1⟩
  · rcases h2 with ⟨e2, c2, f2⟩ | ⟨k, m, hk, hm, ek, em, iv, h2⟩
    · exact ⟨e1.trans e2.symm, f1.trans f2.symm⟩
    · exact absurd ⟨⟨⟨k, hk, ek⟩, ⟨m, hm, em⟩⟩, iv⟩ c1
  · rcases h2 with ⟨e2, c2, f2⟩ | ⟨k', m', hk', hm', ek', em', iv', h2⟩
    · exact absurd ⟨⟨⟨k, hk, ek⟩, ⟨m, hm, em⟩⟩, iv⟩ c2
    · have q1 := k_eq hn.2 hk hk' ek ek'
      have q2 := k_eq hn.1 hm hm' em em'
      subst q1
      subst q2
      rcases h1 with ⟨e1, g1, f1⟩ | ⟨e1, g1, f1⟩
      · rcases h2 with ⟨e2, g2, f2⟩ | ⟨e2, g2, f2⟩
        · exact ⟨e1.trans e2.symm, f1.trans f2.symm⟩
        · rw [g1] at g2; cases g2
      · rcases h2 with ⟨e2, g2, f2⟩ | ⟨e2, g2, f2⟩
        · rw [g1] at g2; cases g2
        · exact ⟨e1.trans e2.symm, f1.trans f2.symm⟩
theorem read_k (e : tA = tM) (hn : T_nb tM ≤ 8 ∧ T_np tM ≤ 8) (h1 : PXread tA a b r t1) (h2 : PXread tM a b r' t2) : r = r' ∧ t1 = t2 := by
  subst e
  rcases h1 with ⟨e1, c1, f1⟩ | ⟨k, m, hk, hm, ek, em, h1⟩
  · rcases h2 with ⟨e2, c2, f2⟩ | ⟨k, m, hk, hm, ek, em, h2⟩
    · exact ⟨e1.trans e2.symm, f1.trans f2.symm⟩
    · exact absurd ⟨⟨k, hk, ek⟩, ⟨m, hm, em⟩⟩ c1
  · rcases h2 with ⟨e2, c2, f2⟩ | ⟨k', m', hk', hm', ek', em', h2⟩
    · exact absurd ⟨⟨k, hk, ek⟩, ⟨m, hm, em⟩⟩ c2
    · have q1 := k_eq hn.2 hk hk' ek ek'
      have q2 := k_eq hn.1 hm hm' em em'
      subst q1
      subst q2
      rcases h1 with ⟨e1, g1, f1⟩ | ⟨e1, g1, p1, f1⟩
      · rcases h2 with ⟨e2, g2, f2⟩ | ⟨e2, g2, p2, f2⟩
        · exact ⟨e1.trans e2.symm, f1.trans f2.symm⟩
        · rw [g2, p2] at g1; exact absurd g1 (by decide)
      · rcases h2 with ⟨e2, g2, f2⟩ | ⟨e2, g2, p2, f2⟩
        · rw [g1, p1] at g2; exact absurd g2 (by decide)
        · exact ⟨e1.trans e2.symm, f1.trans f2.symm⟩
theorem aloud_k (e : tA = tM) (hn : T_nb tM ≤ 8 ∧ T_np tM ≤ 8) (h1 : PXaloud tA a b c r t1) (h2 : PXaloud tM a b c r' t2) : r = r' ∧ t1 = t2 := by
  subst e
  rcases h1 with ⟨e1, c1, f1⟩ | ⟨k, m, hk, hm, ek, em, iv, h1⟩
  · rcases h2 with ⟨e2, c2, f2⟩ | ⟨k, m, hk, hm, ek, em, iv, h2⟩
    · exact ⟨e1.trans e2.symm, f1.trans f2.symm⟩
    · exact absurd ⟨iv, ⟨⟨k, hk, ek⟩, ⟨m, hm, em⟩⟩⟩ c1
  · rcases h2 with ⟨e2, c2, f2⟩ | ⟨k', m', hk', hm', ek', em', iv', h2⟩
    · exact absurd ⟨iv, ⟨⟨k, hk, ek⟩, ⟨m, hm, em⟩⟩⟩ c2
    · have q1 := k_eq hn.2 hk hk' ek ek'
      have q2 := k_eq hn.1 hm hm' em em'
      subst q1
      subst q2
      rcases h1 with ⟨e1, g1, f1⟩ | ⟨e1, g1, p1, f1⟩
      · rcases h2 with ⟨e2, g2, f2⟩ | ⟨e2, g2, p2, f2⟩
        · exact ⟨e1.trans e2.symm, f1.trans f2.symm⟩
        · rw [g2, p2] at g1; exact absurd g1 (by decide)
      · rcases h2 with ⟨e2, g2, f2⟩ | ⟨e2, g2, p2, f2⟩
        · rw [g1, p1] at g2; exact absurd g2 (by decide)
        · exact ⟨e1.trans e2.symm, f1.trans f2.symm⟩
theorem tell_k (e : tA = tM) (hn : T_nb tM ≤ 8 ∧ T_np tM ≤ 8) (h1 : PXtell tA a b c r t1) (h2 : PXtell tM a b c r' t2) : r = r' ∧ t1 = t2 := by
  subst e
  rcases h1 with ⟨e1, c1, f1⟩ | ⟨k, j, m, hk, hj, hm, ek, ej, em, ne, h1⟩
  · rcases h2 with ⟨e2, c2, f2⟩ | ⟨k, j, m, hk, hj, hm, ek, ej, em, ne, h2⟩
    · exact ⟨e1.trans e2.symm, f1.trans f2.symm⟩
    · exact absurd ⟨⟨⟨k, hk, ek⟩, ⟨m, hm, em⟩⟩, ⟨j, hj, ej⟩, fun q => ne (nI_inj (by omega) (by omega) (ek.symm.trans (q.trans ej)))⟩ c1
  · rcases h2 with ⟨e2, c2, f2⟩ | ⟨k', j', m', hk', hj', hm', ek', ej', em', ne', h2⟩
    · exact absurd ⟨⟨⟨k, hk, ek⟩, ⟨m, hm, em⟩⟩, ⟨j, hj, ej⟩, fun q => ne (nI_inj (by omega) (by omega) (ek.symm.trans (q.trans ej)))⟩ c2
    · have q1 := k_eq hn.2 hk hk' ek ek'
      have q2 := k_eq hn.1 hm hm' em em'
      have q3 := k_eq hn.2 hj hj' ej ej'
      subst q1
      subst q2
      subst q3
      rcases h1 with ⟨e1, g1, f1⟩ | ⟨e1, g1, p1, f1⟩
      · rcases h2 with ⟨e2, g2, f2⟩ | ⟨e2, g2, p2, f2⟩
        · exact ⟨e1.trans e2.symm, f1.trans f2.symm⟩
        · rw [g2, p2] at g1; exact absurd g1 (by decide)
      · rcases h2 with ⟨e2, g2, f2⟩ | ⟨e2, g2, p2, f2⟩
        · rw [g1, p1] at g2; exact absurd g2 (by decide)
        · exact ⟨e1.trans e2.symm, f1.trans f2.symm⟩
theorem write_k (e : tA = tM) (hn : T_nb tM ≤ 8 ∧ T_np tM ≤ 8) (h1 : PXwrite tA a b r t1) (h2 : PXwrite tM a b r' t2) : r = r' ∧ t1 = t2 := by
  subst e
  rcases h1 with ⟨e1, c1, f1⟩ | ⟨k, m, hk, hm, ek, em, h1⟩
  · rcases h2 with ⟨e2, c2, f2⟩ | ⟨k, m, hk, hm, ek, em, h2⟩
    · exact ⟨e1.trans e2.symm, f1.trans f2.symm⟩
    · exact absurd ⟨⟨k, hk, ek⟩, ⟨m, hm, em⟩⟩ c1
  · rcases h2 with ⟨e2, c2, f2⟩ | ⟨k', m', hk', hm', ek', em', h2⟩
    · exact absurd ⟨⟨k, hk, ek⟩, ⟨m, hm, em⟩⟩ c2
    · have q1 := k_eq hn.2 hk hk' ek ek'
      have q2 := k_eq hn.1 hm hm' em em'
      subst q1
      subst q2
      rcases h1 with ⟨e1, g1, f1⟩ | ⟨e1, g1, p1, n1, f1⟩
      · rcases h2 with ⟨e2, g2, f2⟩ | ⟨e2, g2, p2, n2, f2⟩
        · exact ⟨e1.trans e2.symm, f1.trans f2.symm⟩
        · rw [g2, p2] at g1; rcases g1 with g | g | g
          · cases g
          · cases g
          · exact absurd g n2
      · rcases h2 with ⟨e2, g2, f2⟩ | ⟨e2, g2, p2, n2, f2⟩
        · rw [g1, p1] at g2; rcases g2 with g | g | g
          · cases g
          · cases g
          · exact absurd g n1
        · exact ⟨e1.trans e2.symm, f1.trans f2.symm⟩
theorem town_k {R : Nat ⊕ (TA × Nat)} (e : tA = tM) (h1 : PXtown R tA r t1) (h2 : PXtown R tM r' t2) : r = r' ∧ t1 = t2 := by
  subst e
  rcases h1 with ⟨x, e1, r1, f1⟩ | ⟨x, e1, r1⟩
  · rcases h2 with ⟨y, e2, r2, f2⟩ | ⟨y, e2, r2⟩
    · have q := Sum.inl.inj (e1.symm.trans e2)
      exact ⟨by rw [r1, r2, q], f1.trans f2.symm⟩
    · rw [e1] at e2; cases e2
  · rcases h2 with ⟨y, e2, r2, f2⟩ | ⟨y, e2, r2⟩
    · rw [e1] at e2; cases e2
    · have q := Prod.mk.inj (Sum.inr.inj (e1.symm.trans e2))
      exact ⟨by rw [r1, r2, q.2], q.1⟩
end TW
theorem nbf_0 {f g : Nat → Int32} : nbf f 0 = nbf g 0 := by
  funext i
  show (if i < 0 then nrm (f i) else 128) = if i < 0 then nrm (g i) else 128
  rw [if_neg (by omega), if_neg (by omega)]
def SH1 (s : Nat) (fH fS fA : Nat → Int32) (gE : Nat → Int64) (fMh fMo fMz fMk fMa : Nat → Int32) (eR : Nat → Nat → Int64) : Prop := (fMh s = 0 ∧ fH s = -1) ∨ (fMh s = 1 ∧ fH s = fMo s ∧ Rw (fH s) ∧ fS s = fMz s ∧ ∀ n i : Nat, fS s = nI n → n ≤ 40 → i < n → gE (s * 40 + i) = eR s i) ∨ (fMh s = 2 ∧ fH s = 10 + fMk s ∧ Iv (fMk s).toInt64 1 6 ∧ fA s = fMa s)
def SHR (fH fS fA : Nat → Int32) (gE : Nat → Int64) (fMh fMo fMz fMk fMa : Nat → Int32) (eR : Nat → Nat → Int64) : Prop := ∀ s, s < 8 → SH1 s fH fS fA gE fMh fMo fMz fMk fMa eR
def LR (iKp : Int32) (tA tB : TA) (fH fS fA : Nat → Int32) (gE : Nat → Int64) (kZ : Nat) (fMh fMo fMz fMk fMa : Nat → Int32) (eR : Nat → Nat → Int64) (kY : Nat) (tM : TA) (uP : UM) (fB fMt : Nat → Int32) : Prop := (kZ = kY ∧ (iKp = 0 ↔ isS uP = false) ∧ SHR fH fS fA gE fMh fMo fMz fMk fMa eR) ∧ TWR tA tB fB kZ fMt kY tM uP
def LINV (G : va_G) (cy : Nat → ClassId) (A : Nat → Prop) (H : Heap) (aX aM rR rB rO rK : Nat → Nat) : Prop := ∃ (iKp : Int32) (iYe : Int32) (iTv : Int32) (fR : Nat → Int32) (tA : TA) (tB : TA) (iL : Int32) (iBs : Int32) (tU : TA) (tV : TA) (fH : Nat → Int32) (fS : Nat → Int32) (fA : Nat → Int32) (gE : Nat → Int64) (kZ : Nat) (iT1 : Int32) (iT2 : Int32) (iT3 : Int32) (iT4 : Int32) (fB : Nat → Int32) (tD : TA) (fMh : Nat → Int32) (fMo : Nat → Int32) (fMz : Nat → Int32) (gMv : Nat → Int64) (fMk : Nat → Int32) (fMa : Nat → Int32) (fMt : Nat → Int32) (kY : Nat) (fMr : Nat → Int32) (fM3 : Nat → Int32) (fMu : Nat → Int32) (fMy : Nat → Int32) (fMb : Nat → Int32) (eR : Nat → Nat → Int64) (tM : TA) (iEn : Int32) (iTk : Int32) (uP : UM) (uU : UM) (kAt : Nat) (iTo : Int32) (iFr : Int32) (JFi : Int64) (iFa : Int32) (iSt : Int32) (iLv : Int32) (iWs : Int32) (wL : UL) (uS0 : UM) (uS1 : UM) (uS2 : UM) (uS3 : UM) (uS4 : UM) (iOm : Int32), va_P G CL ((XW cy aX iKp iYe iTv fR tA tB iL iBs tU tV fH fS fA gE kZ iT1 iT2 iT3 iT4 fB tD) ++ ((MK cy aM rR rB rO rK fMh fMo fMz gMv fMk fMa fMt kY fMr fM3 fMu fMy fMb eR tM iEn iTk uP uU kAt iTo iFr JFi iFa iSt iLv iWs wL uS0 uS1 uS2 uS3 uS4 iOm) ++ ((oM cy uU) ++ ((oL cy wL) ++ ((oM cy uP) ++ (oM cy uS0 ++ (oM cy uS1 ++ (oM cy uS2 ++ (oM cy uS3 ++ oM cy uS4))))))))) H ∧ va_D A ((XW cy aX iKp iYe iTv fR tA tB iL iBs tU tV fH fS fA gE kZ iT1 iT2 iT3 iT4 fB tD) ++ ((MK cy aM rR rB rO rK fMh fMo fMz gMv fMk fMa fMt kY fMr fM3 fMu fMy fMb eR tM iEn iTk uP uU kAt iTo iFr JFi iFa iSt iLv iWs wL uS0 uS1 uS2 uS3 uS4 iOm) ++ ((oM cy uU) ++ ((oL cy wL) ++ ((oM cy uP) ++ (oM cy uS0 ++ (oM cy uS1 ++ (oM cy uS2 ++ (oM cy uS3 ++ oM cy uS4))))))))) ∧ SX tA tB tD fS kZ ∧ SM tM uP fMz fMa kY ∧ LR iKp tA tB fH fS fA gE kZ fMh fMo fMz fMk fMa eR kY tM uP fB fMt
theorem linv_mk {G : va_G} {cy : Nat → ClassId} {A : Nat → Prop} {H : Heap} {aX aM rR rB rO rK : Nat → Nat} {iKp : Int32} {iYe : Int32} {iTv : Int32} {fR : Nat → Int32} {tA : TA} {tB : TA} {iL : Int32} {iBs : Int32} {tU : TA} {tV : TA} {fH : Nat → Int32} {fS : Nat → Int32} {fA : Nat → Int32} {gE : Nat → Int64} {kZ : Nat} {iT1 : Int32} {iT2 : Int32} {iT3 : Int32} {iT4 : Int32} {fB : Nat → Int32} {tD : TA} {fMh : Nat → Int32} {fMo : Nat → Int32} {fMz : Nat → Int32} {gMv : Nat → Int64} {fMk : Nat → Int32} {fMa : Nat → Int32} {fMt : Nat → Int32} {kY : Nat} {fMr : Nat → Int32} {fM3 : Nat → Int32} {fMu : Nat → Int32} {fMy : Nat → Int32} {fMb : Nat → Int32} {eR : Nat → Nat → Int64} {tM : TA} {iEn : Int32} {iTk : Int32} {uP : UM} {uU : UM} {kAt : Nat} {iTo : Int32} {iFr : Int32} {JFi : Int64} {iFa : Int32} {iSt : Int32} {iLv : Int32} {iWs : Int32} {wL : UL} {uS0 : UM} {uS1 : UM} {uS2 : UM} {uS3 : UM} {uS4 : UM} {iOm : Int32} (hP : va_P G CL ((XW cy aX iKp iYe iTv fR tA tB iL iBs tU tV fH fS fA gE kZ iT1 iT2 iT3 iT4 fB tD) ++ ((MK cy aM rR rB rO rK fMh fMo fMz gMv fMk fMa fMt kY fMr fM3 fMu fMy fMb eR tM iEn iTk uP uU kAt iTo iFr JFi iFa iSt iLv iWs wL uS0 uS1 uS2 uS3 uS4 iOm) ++ ((oM cy uU) ++ ((oL cy wL) ++ ((oM cy uP) ++ (oM cy uS0 ++ (oM cy uS1 ++ (oM cy uS2 ++ (oM cy uS3 ++ oM cy uS4))))))))) H) (hD : va_D A ((XW cy aX iKp iYe iTv fR tA tB iL iBs tU tV fH fS fA gE kZ iT1 iT2 iT3 iT4 fB tD) ++ ((MK cy aM rR rB rO rK fMh fMo fMz gMv fMk fMa fMt kY fMr fM3 fMu fMy fMb eR tM iEn iTk uP uU kAt iTo iFr JFi iFa iSt iLv iWs wL uS0 uS1 uS2 uS3 uS4 iOm) ++ ((oM cy uU) ++ ((oL cy wL) ++ ((oM cy uP) ++ (oM cy uS0 ++ (oM cy uS1 ++ (oM cy uS2 ++ (oM cy uS3 ++ oM cy uS4)))))))))) (hsX : SX tA tB tD fS kZ) (hsM : SM tM uP fMz fMa kY) (hLR : LR iKp tA tB fH fS fA gE kZ fMh fMo fMz fMk fMa eR kY tM uP fB fMt) : LINV G cy A H aX aM rR rB rO rK := ⟨iKp, iYe, iTv, fR, tA, tB, iL, iBs, tU, tV, fH, fS, fA, gE, kZ, iT1, iT2, iT3, iT4, fB, tD, fMh, fMo, fMz, gMv, fMk, fMa, fMt, kY, fMr, fM3, fMu, fMy, fMb, eR, tM, iEn, iTk, uP, uU, kAt, iTo, iFr, JFi, iFa, iSt, iLv, iWs, wL, uS0, uS1, uS2, uS3, uS4, iOm, hP, hD, hsX, hsM, hLR⟩
