def XW (cy : Nat → ClassId) (aX : Nat → Nat) (iKp : Int32) (iYe : Int32) (iTv : Int32) (fR : Nat → Int32) (tA : TA) (tB : TA) (iL : Int32) (iBs : Int32) (tU : TA) (tV : TA) (fH : Nat → Int32) (fS : Nat → Int32) (fA : Nat → Int32) (gE : Nat → Int64) (kZ : Nat) (iT1 : Int32) (iT2 : Int32) (iT3 : Int32) (iT4 : Int32) (fB : Nat → Int32) (tD : TA) : va_W := [(aX 0, .inr (4, [.ref (aX 2), .ref (aX 11), .ref (aX 20), .ref (aX 39), .ref (aX 44), .ref (aX 1), .int iKp, .int iYe, .int iTv])), (aX 1, .inl (cy 0, 5, .inl fR)), (aX 2, .inr (3, [.int (nI (T_nb tA)), .int (nI (T_np tA)), .int (wb (T_wh tA)), .int (wb (T_gn tA)), .int (T_sd tA), .ref (aX 3), .ref (aX 4), .ref (aX 5), .ref (aX 6), .ref (aX 7), .ref (aX 8), .ref (aX 9), .ref (aX 10)])), (aX 3, .inl (cy 0, 8, .inl (T_wo tA))), (aX 4, .inl (cy 0, 8, .inl (T_ne tA))), (aX 5, .inl (cy 0, 8, .inl (T_go tA))), (aX 6, .inl (cy 0, 8, .inl (T_ag tA))), (aX 7, .inl (cy 0, 8, .inl (T_re tA))), (aX 8, .inl (cy 0, 8, .inl (T_me tA))), (aX 9, .inl (cy 0, 8, .inl (T_te tA))), (aX 10, .inl (cy 0, 64, .inl (shF (T_kn tA)))), (aX 11, .inr (3, [.int (nI (T_nb tB)), .int (nI (T_np tB)), .int (wb (T_wh tB)), .int (wb (T_gn tB)), .int (T_sd tB), .ref (aX 12), .ref (aX 13), .ref (aX 14), .ref (aX 15), .ref (aX 16), .ref (aX 17), .ref (aX 18), .ref (aX 19)])), (aX 12, .inl (cy 0, 8, .inl (T_wo tB))), (aX 13, .inl (cy 0, 8, .inl (T_ne tB))), (aX 14, .inl (cy 0, 8, .inl (T_go tB))), (aX 15, .inl (cy 0, 8, .inl (T_ag tB))), (aX 16, .inl (cy 0, 8, .inl (T_re tB))), (aX 17, .inl (cy 0, 8, .inl (T_me tB))), (aX 18, .inl (cy 0, 8, .inl (T_te tB))), (aX 19, .inl (cy 0, 64, .inl (shF (T_kn tB)))), (aX 20, .inr (0, [.ref (aX 21), .ref (aX 30), .int iL, .int iBs])), (aX 21, .inr (3, [.int (nI (T_nb tU)), .int (nI (T_np tU)), .int (wb (T_wh tU)), .int (wb (T_gn tU)), .int (T_sd tU), .ref (aX 22), .ref (aX 23), .ref (aX 24), .ref (aX 25), .ref (aX 26), .ref (aX 27), .ref (aX 28), .ref (aX 29)])), (aX 22, .inl (cy 0, 8, .inl (T_wo tU))), (aX 23, .inl (cy 0, 8, .inl (T_ne tU))), (aX 24, .inl (cy 0, 8, .inl (T_go tU))), (aX 25, .inl (cy 0, 8, .inl (T_ag tU))), (aX 26, .inl (cy 0, 8, .inl (T_re tU))), (aX 27, .inl (cy 0, 8, .inl (T_me tU))), (aX 28, .inl (cy 0, 8, .inl (T_te tU))), (aX 29, .inl (cy 0, 64, .inl (shF (T_kn tU)))), (aX 30, .inr (3, [.int (nI (T_nb tV)), .int (nI (T_np tV)), .int (wb (T_wh tV)), .int (wb (T_gn tV)), .int (T_sd tV), .ref (aX 31), .ref (aX 32), .ref (aX 33), .ref (aX 34), .ref (aX 35), .ref (aX 36), .ref (aX 37), .ref (aX 38)])), (aX 31, .inl (cy 0, 8, .inl (T_wo tV))), (aX 32, .inl (cy 0, 8, .inl (T_ne tV))), (aX 33, .inl (cy 0, 8, .inl (T_go tV))), (aX 34, .inl (cy 0, 8, .inl (T_ag tV))), (aX 35, .inl (cy 0, 8, .inl (T_re tV))), (aX 36, .inl (cy 0, 8, .inl (T_me tV))), (aX 37, .inl (cy 0, 8, .inl (T_te tV))), (aX 38, .inl (cy 0, 64, .inl (shF (T_kn tV)))), (aX 39, .inr (1, [.ref (aX 40), .ref (aX 41), .ref (aX 42), .ref (aX 43)])), (aX 40, .inl (cy 0, 8, .inl fH)), (aX 41, .inl (cy 0, 8, .inl fS)), (aX 42, .inl (cy 0, 8, .inl fA)), (aX 43, .inl (cy 1, 320, .inr (.inl gE))), (aX 44, .inr (2, [.ref (aX 45), .int (nI kZ), .int iT1, .int iT2, .int iT3, .int iT4, .ref (aX 46)])), (aX 45, .inl (cy 2, 250, .inl fB)), (aX 46, .inr (3, [.int (nI (T_nb tD)), .int (nI (T_np tD)), .int (wb (T_wh tD)), .int (wb (T_gn tD)), .int (T_sd tD), .ref (aX 47), .ref (aX 48), .ref (aX 49), .ref (aX 50), .ref (aX 51), .ref (aX 52), .ref (aX 53), .ref (aX 54)])), (aX 47, .inl (cy 0, 8, .inl (T_wo tD))), (aX 48, .inl (cy 0, 8, .inl (T_ne tD))), (aX 49, .inl (cy 0, 8, .inl (T_go tD))), (aX 50, .inl (cy 0, 8, .inl (T_ag tD))), (aX 51, .inl (cy 0, 8, .inl (T_re tD))), (aX 52, .inl (cy 0, 8, .inl (T_me tD))), (aX 53, .inl (cy 0, 8, .inl (T_te tD))), (aX 54, .inl (cy 0, 64, .inl (shF (T_kn tD))))]
def MK (cy : Nat → ClassId) (aM : Nat → Nat) (rR rB rO rK : Nat → Nat) (fMh : Nat → Int32) (fMo : Nat → Int32) (fMz : Nat → Int32) (gMv : Nat → Int64) (fMk : Nat → Int32) (fMa : Nat → Int32) (fMt : Nat → Int32) (kY : Nat) (fMr : Nat → Int32) (fM3 : Nat → Int32) (fMu : Nat → Int32) (fMy : Nat → Int32) (fMb : Nat → Int32) (eR : Nat → Nat → Int64) (tM : TA) (iEn : Int32) (iTk : Int32) (uP : UM) (uU : UM) (kAt : Nat) (iTo : Int32) (iFr : Int32) (JFi : Int64) (iFa : Int32) (iSt : Int32) (iLv : Int32) (iWs : Int32) (wL : UL) (uS0 : UM) (uS1 : UM) (uS2 : UM) (uS3 : UM) (uS4 : UM) (iOm : Int32) : va_W := [(aM 0, .inr (5, [.ref (aM 1), .ref (aM 2), .ref (aM 3), .ref (aM 14), .ref (aM 4), .ref (aM 5), .ref (aM 6), .ref (aM 7), .int (nI kY), .ref (aM 8), .int (nI (T_nb tM)), .ref (aM 15), .int (nI (T_np tM)), .ref (aM 16), .ref (aM 17), .int iEn, .int iTk, .int (T_sd tM), ov uP, ov uU, .int (nI kAt), .int iTo, .int iFr, .long JFi, .int iFa, .ref (aM 9), .int iSt, .int iLv, .int iWs, ovL wL, .ref (aM 10), .ref (aM 11), .ref (aM 12), .ref (aM 13), .int iOm])), (aM 1, .inl (cy 0, 8, .inl fMh)), (aM 2, .inl (cy 0, 8, .inl fMo)), (aM 3, .inl (cy 0, 8, .inl fMz)), (aM 4, .inl (cy 1, 40, .inr (.inl gMv))), (aM 5, .inl (cy 0, 8, .inl fMk)), (aM 6, .inl (cy 0, 8, .inl fMa)), (aM 7, .inl (cy 0, 250, .inl fMt)), (aM 8, .inl (cy 0, 8, .inl fMr)), (aM 9, .inl (cy 0, 3, .inl fM3)), (aM 10, .inl (cy 0, 8, .inl fMu)), (aM 11, .inl (cy 0, 5, .inl fMy)), (aM 12, .inl (cy 0, 5, .inl fMb)), (aM 13, .inl (cy 5, 6, .inr (.inr (.inr (.inr (sF (refU uS0) (refU uS1) (refU uS2) (refU uS3) (refU uS4))))))), (aM 14, .inl (cy 4, 8, .inr (.inr (.inr (.inr (fun i => if i < 8 then some (rR i) else none)))))), (rR 0, .inl (cy 1, 40, .inr (.inl (eR 0)))), (rR 1, .inl (cy 1, 40, .inr (.inl (eR 1)))), (rR 2, .inl (cy 1, 40, .inr (.inl (eR 2)))), (rR 3, .inl (cy 1, 40, .inr (.inl (eR 3)))), (rR 4, .inl (cy 1, 40, .inr (.inl (eR 4)))), (rR 5, .inl (cy 1, 40, .inr (.inl (eR 5)))), (rR 6, .inl (cy 1, 40, .inr (.inl (eR 6)))), (rR 7, .inl (cy 1, 40, .inr (.inl (eR 7)))), (aM 15, .inl (cy 3, 8, .inr (.inr (.inr (.inr (fun i => if i < 8 then some (rB i) else none)))))), (rB 0, .inl (cy 0, 4, .inl (bkR tM 0))), (rB 1, .inl (cy 0, 4, .inl (bkR tM 1))), (rB 2, .inl (cy 0, 4, .inl (bkR tM 2))), (rB 3, .inl (cy 0, 4, .inl (bkR tM 3))), (rB 4, .inl (cy 0, 4, .inl (bkR tM 4))), (rB 5, .inl (cy 0, 4, .inl (bkR tM 5))), (rB 6, .inl (cy 0, 4, .inl (bkR tM 6))), (rB 7, .inl (cy 0, 4, .inl (bkR tM 7))), (aM 16, .inl (cy 3, 8, .inr (.inr (.inr (.inr (fun i => if i < 8 then some (rO i) else none)))))), (rO 0, .inl (cy 0, 5, .inl (onR tM 0))), (rO 1, .inl (cy 0, 5, .inl (onR tM 1))), (rO 2, .inl (cy 0, 5, .inl (onR tM 2))), (rO 3, .inl (cy 0, 5, .inl (onR tM 3))), (rO 4, .inl (cy 0, 5, .inl (onR tM 4))), (rO 5, .inl (cy 0, 5, .inl (onR tM 5))), (rO 6, .inl (cy 0, 5, .inl (onR tM 6))), (rO 7, .inl (cy 0, 5, .inl (onR tM 7))), (aM 17, .inl (cy 3, 8, .inr (.inr (.inr (.inr (fun i => if i < 8 then some (rK i) else none)))))), (rK 0, .inl (cy 0, 8, .inl (T_kn tM 0))), (rK 1, .inl (cy 0, 8, .inl (T_kn tM 1))), (rK 2, .inl (cy 0, 8, .inl (T_kn tM 2))), (rK 3, .inl (cy 0, 8, .inl (T_kn tM 3))), (rK 4, .inl (cy 0, 8, .inl (T_kn tM 4))), (rK 5, .inl (cy 0, 8, .inl (T_kn tM 5))), (rK 6, .inl (cy 0, 8, .inl (T_kn tM 6))), (rK 7, .inl (cy 0, 8, .inl (T_kn tM 7)))]
def pickW (X : va_W) (is : List Nat) : va_W := is.filterMap (fun i => X[i]?)
section PERM
variable {G : va_G} {H : Heap} {A : Nat → Prop} {a b c d k t x u l s p q w : va_W}
theorem rotP (h : va_P G CL (a ++ (b ++ (c ++ d))) H) : va_P G CL (a ++ (c ++ (b ++ d))) H := by
  have h1 : va_P G CL ((a ++ b) ++ (c ++ d)) H := by rw [List.append_assoc]; exact h
  have h2 := h1.swap
  have h3 : va_P G CL (((a ++ c) ++ d) ++ b) H := by rw [List.append_assoc a c d]; exact h2
  have h4 := h3.swap
  rw [List.append_assoc, List.append_assoc] at h4
  exact h4
theorem rotD (h : va_D A (a ++ (b ++ (c ++ d)))) : va_D A (a ++ (c ++ (b ++ d))) := by
  have h1 : va_D A ((a ++ b) ++ (c ++ d)) := by rw [List.append_assoc]; exact h
  have h2 := h1.swap
  have h3 : va_D A (((a ++ c) ++ d) ++ b) := by rw [List.append_assoc a c d]; exact h2
  have h4 := h3.swap
  rw [List.append_assoc, List.append_assoc] at h4
  exact h4
theorem toNP (h : va_P G CL (x ++ (k ++ t)) H) : va_P G CL (k ++ (t ++ x)) H := by
  have h0 := h
  simp only [List.append_assoc] at h0
  have h1 : va_P G CL ([] ++ ((k ++ t) ++ (x ++ []))) H := rotP (a := []) (b := x) (c := (k ++ t)) (d := []) (by simpa only [List.append_assoc, List.nil_append, List.append_nil] using h0)
  simpa only [List.append_assoc, List.nil_append, List.append_nil] using h1
theorem toND (h : va_D A (x ++ (k ++ t))) : va_D A (k ++ (t ++ x)) := by
  have h0 := h
  simp only [List.append_assoc] at h0
  have h1 : va_D A ([] ++ ((k ++ t) ++ (x ++ []))) := rotD (a := []) (b := x) (c := (k ++ t)) (d := []) (by simpa only [List.append_assoc, List.nil_append, List.append_nil] using h0)
  simpa only [List.append_assoc, List.nil_append, List.append_nil] using h1
theorem ofNP (h : va_P G CL (k ++ (t ++ x)) H) : va_P G CL (x ++ (k ++ t)) H := by
  have h0 := h
  simp only [List.append_assoc] at h0
  have h1 : va_P G CL ([] ++ (x ++ ((k ++ t) ++ []))) H := rotP (a := []) (b := (k ++ t)) (c := x) (d := []) (by simpa only [List.append_assoc, List.nil_append, List.append_nil] using h0)
  simpa only [List.append_assoc, List.nil_append, List.append_nil] using h1
theorem ofND (h : va_D A (k ++ (t ++ x))) : va_D A (x ++ (k ++ t)) := by
  have h0 := h
  simp only [List.append_assoc] at h0
  have h1 : va_D A ([] ++ (x ++ ((k ++ t) ++ []))) := rotD (a := []) (b := (k ++ t)) (c := x) (d := []) (by simpa only [List.append_assoc, List.nil_append, List.append_nil] using h0)
  simpa only [List.append_assoc, List.nil_append, List.append_nil] using h1
theorem toUP (h : va_P G CL (x ++ (k ++ (u ++ t))) H) : va_P G CL ((k ++ u) ++ (t ++ x)) H := by
  have h0 := h
  simp only [List.append_assoc] at h0
  have h1 : va_P G CL ([] ++ ((k ++ (u ++ t)) ++ (x ++ []))) H := rotP (a := []) (b := x) (c := (k ++ (u ++ t))) (d := []) (by simpa only [List.append_assoc, List.nil_append, List.append_nil] using h0)
  simpa only [List.append_assoc, List.nil_append, List.append_nil] using h1
theorem toUD (h : va_D A (x ++ (k ++ (u ++ t)))) : va_D A ((k ++ u) ++ (t ++ x)) := by
  have h0 := h
  simp only [List.append_assoc] at h0
  have h1 : va_D A ([] ++ ((k ++ (u ++ t)) ++ (x ++ []))) := rotD (a := []) (b := x) (c := (k ++ (u ++ t))) (d := []) (by simpa only [List.append_assoc, List.nil_append, List.append_nil] using h0)
  simpa only [List.append_assoc, List.nil_append, List.append_nil] using h1
theorem ofUP (h : va_P G CL (k ++ (u ++ (t ++ x))) H) : va_P G CL (x ++ (k ++ (u ++ t))) H := by
  have h0 := h
  simp only [List.append_assoc] at h0
  have h1 : va_P G CL ([] ++ (x ++ ((k ++ (u ++ t)) ++ []))) H := rotP (a := []) (b := (k ++ (u ++ t))) (c := x) (d := []) (by simpa only [List.append_assoc, List.nil_append, List.append_nil] using h0)
  simpa only [List.append_assoc, List.nil_append, List.append_nil] using h1
theorem ofUD (h : va_D A (k ++ (u ++ (t ++ x)))) : va_D A (x ++ (k ++ (u ++ t))) := by
  have h0 := h
  simp only [List.append_assoc] at h0
  have h1 : va_D A ([] ++ (x ++ ((k ++ (u ++ t)) ++ []))) := rotD (a := []) (b := (k ++ (u ++ t))) (c := x) (d := []) (by simpa only [List.append_assoc, List.nil_append, List.append_nil] using h0)
  simpa only [List.append_assoc, List.nil_append, List.append_nil] using h1
theorem toLP (h : va_P G CL (x ++ (k ++ (u ++ (l ++ t)))) H) : va_P G CL ((k ++ (u ++ l)) ++ (t ++ x)) H := by
  have h0 := h
  simp only [List.append_assoc] at h0
  have h1 : va_P G CL ([] ++ ((k ++ (u ++ (l ++ t))) ++ (x ++ []))) H := rotP (a := []) (b := x) (c := (k ++ (u ++ (l ++ t)))) (d := []) (by simpa only [List.append_assoc, List.nil_append, List.append_nil] using h0)
  simpa only [List.append_assoc, List.nil_append, List.append_nil] using h1
theorem toLD (h : va_D A (x ++ (k ++ (u ++ (l ++ t))))) : va_D A ((k ++ (u ++ l)) ++ (t ++ x)) := by
  have h0 := h
  simp only [List.append_assoc] at h0
  have h1 : va_D A ([] ++ ((k ++ (u ++ (l ++ t))) ++ (x ++ []))) := rotD (a := []) (b := x) (c := (k ++ (u ++ (l ++ t)))) (d := []) (by simpa only [List.append_assoc, List.nil_append, List.append_nil] using h0)
  simpa only [List.append_assoc, List.nil_append, List.append_nil] using h1
theorem ofLP (h : va_P G CL (k ++ ((u ++ l) ++ (t ++ x))) H) : va_P G CL (x ++ (k ++ (u ++ (l ++ t)))) H := by
  have h0 := h
  simp only [List.append_assoc] at h0
  have h1 : va_P G CL ([] ++ (x ++ ((k ++ (u ++ (l ++ t))) ++ []))) H := rotP (a := []) (b := (k ++ (u ++ (l ++ t)))) (c := x) (d := []) (by simpa only [List.append_assoc, List.nil_append, List.append_nil] using h0)
  simpa only [List.append_assoc, List.nil_append, List.append_nil] using h1
theorem ofLD (h : va_D A (k ++ ((u ++ l) ++ (t ++ x)))) : va_D A (x ++ (k ++ (u ++ (l ++ t)))) := by
  have h0 := h
  simp only [List.append_assoc] at h0
  have h1 : va_D A ([] ++ (x ++ ((k ++ (u ++ (l ++ t))) ++ []))) := rotD (a := []) (b := (k ++ (u ++ (l ++ t)))) (c := x) (d := []) (by simpa only [List.append_assoc, List.nil_append, List.append_nil] using h0)
  simpa only [List.append_assoc, List.nil_append, List.append_nil] using h1
theorem toPP (h : va_P G CL (x ++ (k ++ (u ++ (l ++ (p ++ s))))) H) : va_P G CL ((k ++ p) ++ (u ++ (l ++ (s ++ x)))) H := by
  have h0 := h
  simp only [List.append_assoc] at h0
  have h1 : va_P G CL ([] ++ ((k ++ (u ++ (l ++ (p ++ s)))) ++ (x ++ []))) H := rotP (a := []) (b := x) (c := (k ++ (u ++ (l ++ (p ++ s))))) (d := []) (by simpa only [List.append_assoc, List.nil_append, List.append_nil] using h0)
  have h2 : va_P G CL (k ++ (p ++ ((u ++ l) ++ (s ++ x)))) H := rotP (a := k) (b := (u ++ l)) (c := p) (d := (s ++ x)) (by simpa only [List.append_assoc, List.nil_append, List.append_nil] using h1)
  simpa only [List.append_assoc, List.nil_append, List.append_nil] using h2
theorem toPD (h : va_D A (x ++ (k ++ (u ++ (l ++ (p ++ s)))))) : va_D A ((k ++ p) ++ (u ++ (l ++ (s ++ x)))) := by
  have h0 := h
  simp only [List.append_assoc] at h0
  have h1 : va_D A ([] ++ ((k ++ (u ++ (l ++ (p ++ s)))) ++ (x ++ []))) := rotD (a := []) (b := x) (c := (k ++ (u ++ (l ++ (p ++ s))))) (d := []) (by simpa only [List.append_assoc, List.nil_append, List.append_nil] using h0)
  have h2 : va_D A (k ++ (p ++ ((u ++ l) ++ (s ++ x)))) := rotD (a := k) (b := (u ++ l)) (c := p) (d := (s ++ x)) (by simpa only [List.append_assoc, List.nil_append, List.append_nil] using h1)
  simpa only [List.append_assoc, List.nil_append, List.append_nil] using h2
theorem ofPP (h : va_P G CL (k ++ (p ++ (u ++ (l ++ (s ++ x))))) H) : va_P G CL (x ++ (k ++ (u ++ (l ++ (p ++ s))))) H := by
  have h0 := h
  simp only [List.append_assoc] at h0
  have h1 : va_P G CL (k ++ ((u ++ l) ++ (p ++ (s ++ x)))) H := rotP (a := k) (b := p) (c := (u ++ l)) (d := (s ++ x)) (by simpa only [List.append_assoc, List.nil_append, List.append_nil] using h0)
  have h2 : va_P G CL ([] ++ (x ++ ((k ++ (u ++ (l ++ (p ++ s)))) ++ []))) H := rotP (a := []) (b := (k ++ (u ++ (l ++ (p ++ s))))) (c := x) (d := []) (by simpa only [List.append_assoc, List.nil_append, List.append_nil] using h1)
  simpa only [List.append_assoc, List.nil_append, List.append_nil] using h2
theorem ofPD (h : va_D A (k ++ (p ++ (u ++ (l ++ (s ++ x)))))) : va_D A (x ++ (k ++ (u ++ (l ++ (p ++ s))))) := by
  have h0 := h
  simp only [List.append_assoc] at h0
  have h1 : va_D A (k ++ ((u ++ l) ++ (p ++ (s ++ x)))) := rotD (a := k) (b := p) (c := (u ++ l)) (d := (s ++ x)) (by simpa only [List.append_assoc, List.nil_append, List.append_nil] using h0)
  have h2 : va_D A ([] ++ (x ++ ((k ++ (u ++ (l ++ (p ++ s)))) ++ []))) := rotD (a := []) (b := (k ++ (u ++ (l ++ (p ++ s))))) (c := x) (d := []) (by simpa only [List.append_assoc, List.nil_append, List.append_nil] using h1)
  simpa only [List.append_assoc, List.nil_append, List.append_nil] using h2
theorem toSP (h : va_P G CL (x ++ (k ++ (u ++ (l ++ (p ++ s))))) H) : va_P G CL ((k ++ s) ++ (u ++ (l ++ (p ++ x)))) H := by
  have h0 := h
  simp only [List.append_assoc] at h0
  have h1 : va_P G CL ([] ++ ((k ++ (u ++ (l ++ (p ++ s)))) ++ (x ++ []))) H := rotP (a := []) (b := x) (c := (k ++ (u ++ (l ++ (p ++ s))))) (d := []) (by simpa only [List.append_assoc, List.nil_append, List.append_nil] using h0)
  have h2 : va_P G CL (k ++ (s ++ ((u ++ (l ++ p)) ++ x))) H := rotP (a := k) (b := (u ++ (l ++ p))) (c := s) (d := x) (by simpa only [List.append_assoc, List.nil_append, List.append_nil] using h1)
  simpa only [List.append_assoc, List.nil_append, List.append_nil] using h2
theorem toSD (h : va_D A (x ++ (k ++ (u ++ (l ++ (p ++ s)))))) : va_D A ((k ++ s) ++ (u ++ (l ++ (p ++ x)))) := by
  have h0 := h
  simp only [List.append_assoc] at h0
  have h1 : va_D A ([] ++ ((k ++ (u ++ (l ++ (p ++ s)))) ++ (x ++ []))) := rotD (a := []) (b := x) (c := (k ++ (u ++ (l ++ (p ++ s))))) (d := []) (by simpa only [List.append_assoc, List.nil_append, List.append_nil] using h0)
  have h2 : va_D A (k ++ (s ++ ((u ++ (l ++ p)) ++ x))) := rotD (a := k) (b := (u ++ (l ++ p))) (c := s) (d := x) (by simpa only [List.append_assoc, List.nil_append, List.append_nil] using h1)
  simpa only [List.append_assoc, List.nil_append, List.append_nil] using h2
theorem ofSP (h : va_P G CL (k ++ (s ++ (u ++ (l ++ (p ++ x))))) H) : va_P G CL (x ++ (k ++ (u ++ (l ++ (p ++ s))))) H := by
  have h0 := h
  simp only [List.append_assoc] at h0
  have h1 : va_P G CL (k ++ ((u ++ (l ++ p)) ++ (s ++ x))) H := rotP (a := k) (b := s) (c := (u ++ (l ++ p))) (d := x) (by simpa only [List.append_assoc, List.nil_append, List.append_nil] using h0)
  have h2 : va_P G CL ([] ++ (x ++ ((k ++ (u ++ (l ++ (p ++ s)))) ++ []))) H := rotP (a := []) (b := (k ++ (u ++ (l ++ (p ++ s))))) (c := x) (d := []) (by simpa only [List.append_assoc, List.nil_append, List.append_nil] using h1)
  simpa only [List.append_assoc, List.nil_append, List.append_nil] using h2
theorem ofSD (h : va_D A (k ++ (s ++ (u ++ (l ++ (p ++ x)))))) : va_D A (x ++ (k ++ (u ++ (l ++ (p ++ s))))) := by
  have h0 := h
  simp only [List.append_assoc] at h0
  have h1 : va_D A (k ++ ((u ++ (l ++ p)) ++ (s ++ x))) := rotD (a := k) (b := s) (c := (u ++ (l ++ p))) (d := x) (by simpa only [List.append_assoc, List.nil_append, List.append_nil] using h0)
  have h2 : va_D A ([] ++ (x ++ ((k ++ (u ++ (l ++ (p ++ s)))) ++ []))) := rotD (a := []) (b := (k ++ (u ++ (l ++ (p ++ s))))) (c := x) (d := []) (by simpa only [List.append_assoc, List.nil_append, List.append_nil] using h1)
  simpa only [List.append_assoc, List.nil_append, List.append_nil] using h2
theorem as1P (h : va_P G CL ((w ++ (k ++ u)) ++ q) H) : va_P G CL ((w ++ k) ++ (u ++ q)) H := by simpa only [List.append_assoc] using h
theorem as1D (h : va_D A ((w ++ (k ++ u)) ++ q)) : va_D A ((w ++ k) ++ (u ++ q)) := by simpa only [List.append_assoc] using h
end PERM
def SX (tA tB tD : TA) (fS : Nat → Int32) (kZ : Nat) : Prop := (T_nb tA ≤ 8 ∧ T_np tA ≤ 8) ∧ (T_nb tB ≤ 8 ∧ T_np tB ≤ 8) ∧ T_nb tD ≤ 8 ∧ (∀ s, s < 8 → ∃ n : Nat, n ≤ 40 ∧ fS s = nI n) ∧ kZ ≤ 250
def SM (tM : TA) (uP : UM) (fMz fMa : Nat → Int32) (kY : Nat) : Prop := TI tM ∧ (isS uP = true → TI (uT uP)) ∧ (∀ s, s < 8 → ∃ n : Nat, n ≤ 40 ∧ fMz s = nI n) ∧ (∀ s, s < 8 → ∃ n : Nat, n ≤ 99 ∧ fMa s = nI n) ∧ kY ≤ 250
def LR (_iKp : Int32) (_tA : TA) (_tB : TA) (_fH : Nat → Int32) (_fS : Nat → Int32) (_fA : Nat → Int32) (_gE : Nat → Int64) (_kZ : Nat) (_fMh : Nat → Int32) (_fMo : Nat → Int32) (_fMz : Nat → Int32) (_fMk : Nat → Int32) (_fMa : Nat → Int32) (_eR : Nat → Nat → Int64) (_kY : Nat) (_tM : TA) (_uP : UM) : Prop := True
def LINV (G : va_G) (cy : Nat → ClassId) (A : Nat → Prop) (H : Heap) (aX aM rR rB rO rK : Nat → Nat) : Prop := ∃ (iKp : Int32) (iYe : Int32) (iTv : Int32) (fR : Nat → Int32) (tA : TA) (tB : TA) (iL : Int32) (iBs : Int32) (tU : TA) (tV : TA) (fH : Nat → Int32) (fS : Nat → Int32) (fA : Nat → Int32) (gE : Nat → Int64) (kZ : Nat) (iT1 : Int32) (iT2 : Int32) (iT3 : Int32) (iT4 : Int32) (fB : Nat → Int32) (tD : TA) (fMh : Nat → Int32) (fMo : Nat → Int32) (fMz : Nat → Int32) (gMv : Nat → Int64) (fMk : Nat → Int32) (fMa : Nat → Int32) (fMt : Nat → Int32) (kY : Nat) (fMr : Nat → Int32) (fM3 : Nat → Int32) (fMu : Nat → Int32) (fMy : Nat → Int32) (fMb : Nat → Int32) (eR : Nat → Nat → Int64) (tM : TA) (iEn : Int32) (iTk : Int32) (uP : UM) (uU : UM) (kAt : Nat) (iTo : Int32) (iFr : Int32) (JFi : Int64) (iFa : Int32) (iSt : Int32) (iLv : Int32) (iWs : Int32) (wL : UL) (uS0 : UM) (uS1 : UM) (uS2 : UM) (uS3 : UM) (uS4 : UM) (iOm : Int32), va_P G CL ((XW cy aX iKp iYe iTv fR tA tB iL iBs tU tV fH fS fA gE kZ iT1 iT2 iT3 iT4 fB tD) ++ ((MK cy aM rR rB rO rK fMh fMo fMz gMv fMk fMa fMt kY fMr fM3 fMu fMy fMb eR tM iEn iTk uP uU kAt iTo iFr JFi iFa iSt iLv iWs wL uS0 uS1 uS2 uS3 uS4 iOm) ++ ((oM cy uU) ++ ((oL cy wL) ++ ((oM cy uP) ++ (oM cy uS0 ++ (oM cy uS1 ++ (oM cy uS2 ++ (oM cy uS3 ++ oM cy uS4))))))))) H ∧ va_D A ((XW cy aX iKp iYe iTv fR tA tB iL iBs tU tV fH fS fA gE kZ iT1 iT2 iT3 iT4 fB tD) ++ ((MK cy aM rR rB rO rK fMh fMo fMz gMv fMk fMa fMt kY fMr fM3 fMu fMy fMb eR tM iEn iTk uP uU kAt iTo iFr JFi iFa iSt iLv iWs wL uS0 uS1 uS2 uS3 uS4 iOm) ++ ((oM cy uU) ++ ((oL cy wL) ++ ((oM cy uP) ++ (oM cy uS0 ++ (oM cy uS1 ++ (oM cy uS2 ++ (oM cy uS3 ++ oM cy uS4))))))))) ∧ SX tA tB tD fS kZ ∧ SM tM uP fMz fMa kY ∧ LR iKp tA tB fH fS fA gE kZ fMh fMo fMz fMk fMa eR kY tM uP
theorem preWVXPQ {s : State} {H : Heap} {b : Nat} {As : List Value} {G : va_G} {cy : Nat → ClassId} {X : (Nat → Prop) → State → Heap → Prop} {Xw cx p1 p2 : va_W} {A : Nat → Prop} {locs : List Loc} {q : vw_C} {fs : List Value} (hN : KN G cy s) (hP : va_P G CL ((Xw ++ p1) ++ p2) H) (hD : va_D A ((Xw ++ p1) ++ p2)) (isC : List Nat) (hC : isC.map (fun i => Xw[i]?) = cx.map some) (hn : va_nd isC = true) (qr ci : Nat) (he : (Xw ++ p1)[qr]? = some (b, .inr (ci, fs))) (hc : CL[ci]? = some q) (ok : XOK X) (hX : X A s s.heap) (hS : va_S A s.heap H locs) (hA : ∀ q, s.heap.size ≤ q → A q) : PreV s H q.1 b (WrX G cy X (cx ++ p1) H.size (.ref b :: As)) As := preWVXP hN hP.left hD.left isC hC hn qr ci he hc ok hX hS hA
