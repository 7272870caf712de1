theorem dX6_isDigit_0 : decode cX6_isDigit 0 = .ok (.iload_n 0, 1) := by decide +kernel
theorem dX6_isDigit_1 : decode cX6_isDigit 1 = .ok (.bipush 48, 2) := by decide +kernel
theorem dX6_isDigit_3 : decode cX6_isDigit 3 = .ok (.if_icmp .lt 13, 3) := by decide +kernel
theorem dX6_isDigit_6 : decode cX6_isDigit 6 = .ok (.iload_n 0, 1) := by decide +kernel
theorem dX6_isDigit_7 : decode cX6_isDigit 7 = .ok (.bipush 57, 2) := by decide +kernel
theorem dX6_isDigit_9 : decode cX6_isDigit 9 = .ok (.if_icmp .gt 7, 3) := by decide +kernel
theorem dX6_isDigit_12 : decode cX6_isDigit 12 = .ok (.iconst 1, 1) := by decide +kernel
theorem dX6_isDigit_13 : decode cX6_isDigit 13 = .ok (.goto 4, 3) := by decide +kernel
theorem dX6_isDigit_16 : decode cX6_isDigit 16 = .ok (.iconst 0, 1) := by decide +kernel
theorem dX6_isDigit_17 : decode cX6_isDigit 17 = .ok (.ireturn, 1) := by decide +kernel
theorem dX6_isLetter_0 : decode cX6_isLetter 0 = .ok (.iload_n 0, 1) := by decide +kernel
theorem dX6_isLetter_1 : decode cX6_isLetter 1 = .ok (.bipush 97, 2) := by decide +kernel
theorem dX6_isLetter_3 : decode cX6_isLetter 3 = .ok (.if_icmp .lt 13, 3) := by decide +kernel
theorem dX6_isLetter_6 : decode cX6_isLetter 6 = .ok (.iload_n 0, 1) := by decide +kernel
theorem dX6_isLetter_7 : decode cX6_isLetter 7 = .ok (.bipush 122, 2) := by decide +kernel
theorem dX6_isLetter_9 : decode cX6_isLetter 9 = .ok (.if_icmp .gt 7, 3) := by decide +kernel
theorem dX6_isLetter_12 : decode cX6_isLetter 12 = .ok (.iconst 1, 1) := by decide +kernel
theorem dX6_isLetter_13 : decode cX6_isLetter 13 = .ok (.goto 4, 3) := by decide +kernel
theorem dX6_isLetter_16 : decode cX6_isLetter 16 = .ok (.iconst 0, 1) := by decide +kernel
theorem dX6_isLetter_17 : decode cX6_isLetter 17 = .ok (.ireturn, 1) := by decide +kernel
theorem dX6_isWord_0 : decode cX6_isWord 0 = .ok (.aload_n 0, 1) := by decide +kernel
theorem dX6_isWord_1 : decode cX6_isWord 1 = .ok (.getfield 154, 3) := by decide +kernel
theorem dX6_isWord_4 : decode cX6_isWord 4 = .ok (.iconst 1, 1) := by decide +kernel
theorem dX6_isWord_5 : decode cX6_isWord 5 = .ok (.if_icmp .ne 19, 3) := by decide +kernel
theorem dX6_isWord_8 : decode cX6_isWord 8 = .ok (.aload_n 0, 1) := by decide +kernel
theorem dX6_isWord_9 : decode cX6_isWord 9 = .ok (.getfield 144, 3) := by decide +kernel
theorem dX6_isWord_12 : decode cX6_isWord 12 = .ok (.aload_n 0, 1) := by decide +kernel
theorem dX6_isWord_13 : decode cX6_isWord 13 = .ok (.getfield 147, 3) := by decide +kernel
theorem dX6_isWord_16 : decode cX6_isWord 16 = .ok (.isub, 1) := by decide +kernel
theorem dX6_isWord_17 : decode cX6_isWord 17 = .ok (.aload_n 1, 1) := by decide +kernel
theorem dX6_isWord_18 : decode cX6_isWord 18 = .ok (.invokevirtual 170, 3) := by decide +kernel
theorem dX6_isWord_21 : decode cX6_isWord 21 = .ok (.if_icmp .eq 5, 3) := by decide +kernel
theorem dX6_isWord_24 : decode cX6_isWord 24 = .ok (.iconst 0, 1) := by decide +kernel
theorem dX6_isWord_25 : decode cX6_isWord 25 = .ok (.ireturn, 1) := by decide +kernel
theorem dX6_isWord_26 : decode cX6_isWord 26 = .ok (.iconst 0, 1) := by decide +kernel
theorem dX6_isWord_27 : decode cX6_isWord 27 = .ok (.istore_n 2, 1) := by decide +kernel
theorem dX6_isWord_28 : decode cX6_isWord 28 = .ok (.iload_n 2, 1) := by decide +kernel
theorem dX6_isWord_29 : decode cX6_isWord 29 = .ok (.aload_n 1, 1) := by decide +kernel
theorem dX6_isWord_30 : decode cX6_isWord 30 = .ok (.invokevirtual 170, 3) := by decide +kernel
theorem dX6_isWord_33 : decode cX6_isWord 33 = .ok (.if_icmp .ge 30, 3) := by decide +kernel
theorem dX6_isWord_36 : decode cX6_isWord 36 = .ok (.aload_n 0, 1) := by decide +kernel
theorem dX6_isWord_37 : decode cX6_isWord 37 = .ok (.getfield 34, 3) := by decide +kernel
theorem dX6_isWord_40 : decode cX6_isWord 40 = .ok (.aload_n 0, 1) := by decide +kernel
theorem dX6_isWord_41 : decode cX6_isWord 41 = .ok (.getfield 147, 3) := by decide +kernel
theorem dX6_isWord_44 : decode cX6_isWord 44 = .ok (.iload_n 2, 1) := by decide +kernel
theorem dX6_isWord_45 : decode cX6_isWord 45 = .ok (.iadd, 1) := by decide +kernel
theorem dX6_isWord_46 : decode cX6_isWord 46 = .ok (.iaload, 1) := by decide +kernel
theorem dX6_isWord_47 : decode cX6_isWord 47 = .ok (.aload_n 1, 1) := by decide +kernel
theorem dX6_isWord_48 : decode cX6_isWord 48 = .ok (.iload_n 2, 1) := by decide +kernel
theorem dX6_isWord_49 : decode cX6_isWord 49 = .ok (.invokevirtual 175, 3) := by decide +kernel
theorem dX6_isWord_52 : decode cX6_isWord 52 = .ok (.if_icmp .eq 5, 3) := by decide +kernel
theorem dX6_isWord_55 : decode cX6_isWord 55 = .ok (.iconst 0, 1) := by decide +kernel
theorem dX6_isWord_56 : decode cX6_isWord 56 = .ok (.ireturn, 1) := by decide +kernel
theorem dX6_isWord_57 : decode cX6_isWord 57 = .ok (.iinc 2 1, 3) := by decide +kernel
theorem dX6_isWord_60 : decode cX6_isWord 60 = .ok (.goto (-32), 3) := by decide +kernel
theorem dX6_isWord_63 : decode cX6_isWord 63 = .ok (.iconst 1, 1) := by decide +kernel
theorem dX6_isWord_64 : decode cX6_isWord 64 = .ok (.ireturn, 1) := by decide +kernel
theorem dX6_look_0 : decode cX6_look 0 = .ok (.aload_n 0, 1) := by decide +kernel
theorem dX6_look_1 : decode cX6_look 1 = .ok (.getfield 144, 3) := by decide +kernel
theorem dX6_look_4 : decode cX6_look 4 = .ok (.aload_n 0, 1) := by decide +kernel
theorem dX6_look_5 : decode cX6_look 5 = .ok (.getfield 141, 3) := by decide +kernel
theorem dX6_look_8 : decode cX6_look 8 = .ok (.if_icmp .ge 30, 3) := by decide +kernel
theorem dX6_look_11 : decode cX6_look 11 = .ok (.aload_n 0, 1) := by decide +kernel
theorem dX6_look_12 : decode cX6_look 12 = .ok (.getfield 34, 3) := by decide +kernel
theorem dX6_look_15 : decode cX6_look 15 = .ok (.aload_n 0, 1) := by decide +kernel
theorem dX6_look_16 : decode cX6_look 16 = .ok (.getfield 144, 3) := by decide +kernel
theorem dX6_look_19 : decode cX6_look 19 = .ok (.iaload, 1) := by decide +kernel
theorem dX6_look_20 : decode cX6_look 20 = .ok (.bipush 32, 2) := by decide +kernel
theorem dX6_look_22 : decode cX6_look 22 = .ok (.if_icmp .ne 16, 3) := by decide +kernel
theorem dX6_look_25 : decode cX6_look 25 = .ok (.aload_n 0, 1) := by decide +kernel
theorem dX6_look_26 : decode cX6_look 26 = .ok (.dup, 1) := by decide +kernel
theorem dX6_look_27 : decode cX6_look 27 = .ok (.getfield 144, 3) := by decide +kernel
theorem dX6_look_30 : decode cX6_look 30 = .ok (.iconst 1, 1) := by decide +kernel
theorem dX6_look_31 : decode cX6_look 31 = .ok (.iadd, 1) := by decide +kernel
theorem dX6_look_32 : decode cX6_look 32 = .ok (.putfield 144, 3) := by decide +kernel
theorem dX6_look_35 : decode cX6_look 35 = .ok (.goto (-35), 3) := by decide +kernel
theorem dX6_look_38 : decode cX6_look 38 = .ok (.aload_n 0, 1) := by decide +kernel
theorem dX6_look_39 : decode cX6_look 39 = .ok (.aload_n 0, 1) := by decide +kernel
theorem dX6_look_40 : decode cX6_look 40 = .ok (.getfield 144, 3) := by decide +kernel
theorem dX6_look_43 : decode cX6_look 43 = .ok (.putfield 147, 3) := by decide +kernel
theorem dX6_look_46 : decode cX6_look 46 = .ok (.aload_n 0, 1) := by decide +kernel
theorem dX6_look_47 : decode cX6_look 47 = .ok (.lconst 0, 1) := by decide +kernel
theorem dX6_look_48 : decode cX6_look 48 = .ok (.putfield 150, 3) := by decide +kernel
theorem dX6_look_51 : decode cX6_look 51 = .ok (.aload_n 0, 1) := by decide +kernel
theorem dX6_look_52 : decode cX6_look 52 = .ok (.getfield 144, 3) := by decide +kernel
theorem dX6_look_55 : decode cX6_look 55 = .ok (.aload_n 0, 1) := by decide +kernel
theorem dX6_look_56 : decode cX6_look 56 = .ok (.getfield 141, 3) := by decide +kernel
theorem dX6_look_59 : decode cX6_look 59 = .ok (.if_icmp .ne 11, 3) := by decide +kernel
theorem dX6_look_62 : decode cX6_look 62 = .ok (.aload_n 0, 1) := by decide +kernel
theorem dX6_look_63 : decode cX6_look 63 = .ok (.iconst 0, 1) := by decide +kernel
theorem dX6_look_64 : decode cX6_look 64 = .ok (.putfield 154, 3) := by decide +kernel
theorem dX6_look_67 : decode cX6_look 67 = .ok (.goto 200, 3) := by decide +kernel
theorem dX6_look_70 : decode cX6_look 70 = .ok (.aload_n 0, 1) := by decide +kernel
theorem dX6_look_71 : decode cX6_look 71 = .ok (.getfield 34, 3) := by decide +kernel
theorem dX6_look_74 : decode cX6_look 74 = .ok (.aload_n 0, 1) := by decide +kernel
theorem dX6_look_75 : decode cX6_look 75 = .ok (.getfield 144, 3) := by decide +kernel
theorem dX6_look_78 : decode cX6_look 78 = .ok (.iaload, 1) := by decide +kernel
theorem dX6_look_79 : decode cX6_look 79 = .ok (.invokestatic 157, 3) := by decide +kernel
theorem dX6_look_82 : decode cX6_look 82 = .ok (.ifCond .eq 47, 3) := by decide +kernel
theorem dX6_look_85 : decode cX6_look 85 = .ok (.aload_n 0, 1) := by decide +kernel
theorem dX6_look_86 : decode cX6_look 86 = .ok (.iconst 1, 1) := by decide +kernel
theorem dX6_look_87 : decode cX6_look 87 = .ok (.putfield 154, 3) := by decide +kernel
theorem dX6_look_90 : decode cX6_look 90 = .ok (.aload_n 0, 1) := by decide +kernel
theorem dX6_look_91 : decode cX6_look 91 = .ok (.getfield 144, 3) := by decide +kernel
theorem dX6_look_94 : decode cX6_look 94 = .ok (.aload_n 0, 1) := by decide +kernel
theorem dX6_look_95 : decode cX6_look 95 = .ok (.getfield 141, 3) := by decide +kernel
theorem dX6_look_98 : decode cX6_look 98 = .ok (.if_icmp .ge 169, 3) := by decide +kernel
theorem dX6_look_101 : decode cX6_look 101 = .ok (.aload_n 0, 1) := by decide +kernel
theorem dX6_look_102 : decode cX6_look 102 = .ok (.getfield 34, 3) := by decide +kernel
theorem dX6_look_105 : decode cX6_look 105 = .ok (.aload_n 0, 1) := by decide +kernel
theorem dX6_look_106 : decode cX6_look 106 = .ok (.getfield 144, 3) := by decide +kernel
theorem dX6_look_109 : decode cX6_look 109 = .ok (.iaload, 1) := by decide +kernel
theorem dX6_look_110 : decode cX6_look 110 = .ok (.invokestatic 157, 3) := by decide +kernel
theorem dX6_look_113 : decode cX6_look 113 = .ok (.ifCond .eq 154, 3) := by decide +kernel
theorem dX6_look_116 : decode cX6_look 116 = .ok (.aload_n 0, 1) := by decide +kernel
theorem dX6_look_117 : decode cX6_look 117 = .ok (.dup, 1) := by decide +kernel
theorem dX6_look_118 : decode cX6_look 118 = .ok (.getfield 144, 3) := by decide +kernel
theorem dX6_look_121 : decode cX6_look 121 = .ok (.iconst 1, 1) := by decide +kernel
theorem dX6_look_122 : decode cX6_look 122 = .ok (.iadd, 1) := by decide +kernel
theorem dX6_look_123 : decode cX6_look 123 = .ok (.putfield 144, 3) := by decide +kernel
theorem dX6_look_126 : decode cX6_look 126 = .ok (.goto (-36), 3) := by decide +kernel
theorem dX6_look_129 : decode cX6_look 129 = .ok (.aload_n 0, 1) := by decide +kernel
theorem dX6_look_130 : decode cX6_look 130 = .ok (.getfield 34, 3) := by decide +kernel
theorem dX6_look_133 : decode cX6_look 133 = .ok (.aload_n 0, 1) := by decide +kernel
theorem dX6_look_134 : decode cX6_look 134 = .ok (.getfield 144, 3) := by decide +kernel
theorem dX6_look_137 : decode cX6_look 137 = .ok (.iaload, 1) := by decide +kernel
theorem dX6_look_138 : decode cX6_look 138 = .ok (.invokestatic 160, 3) := by decide +kernel
theorem dX6_look_141 : decode cX6_look 141 = .ok (.ifCond .eq 93, 3) := by decide +kernel
theorem dX6_look_144 : decode cX6_look 144 = .ok (.aload_n 0, 1) := by decide +kernel
theorem dX6_look_145 : decode cX6_look 145 = .ok (.iconst 2, 1) := by decide +kernel
theorem dX6_look_146 : decode cX6_look 146 = .ok (.putfield 154, 3) := by decide +kernel
theorem dX6_look_149 : decode cX6_look 149 = .ok (.aload_n 0, 1) := by decide +kernel
theorem dX6_look_150 : decode cX6_look 150 = .ok (.getfield 144, 3) := by decide +kernel
theorem dX6_look_153 : decode cX6_look 153 = .ok (.aload_n 0, 1) := by decide +kernel
theorem dX6_look_154 : decode cX6_look 154 = .ok (.getfield 141, 3) := by decide +kernel
theorem dX6_look_157 : decode cX6_look 157 = .ok (.if_icmp .ge 110, 3) := by decide +kernel
theorem dX6_look_160 : decode cX6_look 160 = .ok (.aload_n 0, 1) := by decide +kernel
theorem dX6_look_161 : decode cX6_look 161 = .ok (.getfield 34, 3) := by decide +kernel
theorem dX6_look_164 : decode cX6_look 164 = .ok (.aload_n 0, 1) := by decide +kernel
theorem dX6_look_165 : decode cX6_look 165 = .ok (.getfield 144, 3) := by decide +kernel
theorem dX6_look_168 : decode cX6_look 168 = .ok (.iaload, 1) := by decide +kernel
theorem dX6_look_169 : decode cX6_look 169 = .ok (.invokestatic 160, 3) := by decide +kernel
theorem dX6_look_172 : decode cX6_look 172 = .ok (.ifCond .eq 95, 3) := by decide +kernel
theorem dX6_look_175 : decode cX6_look 175 = .ok (.aload_n 0, 1) := by decide +kernel
theorem dX6_look_176 : decode cX6_look 176 = .ok (.aload_n 0, 1) := by decide +kernel
theorem dX6_look_177 : decode cX6_look 177 = .ok (.getfield 144, 3) := by decide +kernel
theorem dX6_look_180 : decode cX6_look 180 = .ok (.aload_n 0, 1) := by decide +kernel
theorem dX6_look_181 : decode cX6_look 181 = .ok (.getfield 147, 3) := by decide +kernel
theorem dX6_look_184 : decode cX6_look 184 = .ok (.isub, 1) := by decide +kernel
theorem dX6_look_185 : decode cX6_look 185 = .ok (.iconst 3, 1) := by decide +kernel
theorem dX6_look_186 : decode cX6_look 186 = .ok (.if_icmp .ge 29, 3) := by decide +kernel
theorem dX6_look_189 : decode cX6_look 189 = .ok (.aload_n 0, 1) := by decide +kernel
theorem dX6_look_190 : decode cX6_look 190 = .ok (.getfield 150, 3) := by decide +kernel
theorem dX6_look_193 : decode cX6_look 193 = .ok (.ldc2_w 132, 3) := by decide +kernel
theorem dX6_look_196 : decode cX6_look 196 = .ok (.lmul, 1) := by decide +kernel
theorem dX6_look_197 : decode cX6_look 197 = .ok (.aload_n 0, 1) := by decide +kernel
theorem dX6_look_198 : decode cX6_look 198 = .ok (.getfield 34, 3) := by decide +kernel
theorem dX6_look_201 : decode cX6_look 201 = .ok (.aload_n 0, 1) := by decide +kernel
theorem dX6_look_202 : decode cX6_look 202 = .ok (.getfield 144, 3) := by decide +kernel
theorem dX6_look_205 : decode cX6_look 205 = .ok (.iaload, 1) := by decide +kernel
theorem dX6_look_206 : decode cX6_look 206 = .ok (.i2l, 1) := by decide +kernel
theorem dX6_look_207 : decode cX6_look 207 = .ok (.ladd, 1) := by decide +kernel
theorem dX6_look_208 : decode cX6_look 208 = .ok (.ldc2_w 163, 3) := by decide +kernel
theorem dX6_look_211 : decode cX6_look 211 = .ok (.lsub, 1) := by decide +kernel
theorem dX6_look_212 : decode cX6_look 212 = .ok (.goto 6, 3) := by decide +kernel
theorem dX6_look_215 : decode cX6_look 215 = .ok (.ldc2_w 165, 3) := by decide +kernel
theorem dX6_look_218 : decode cX6_look 218 = .ok (.putfield 150, 3) := by decide +kernel
theorem dX6_look_221 : decode cX6_look 221 = .ok (.aload_n 0, 1) := by decide +kernel
theorem dX6_look_222 : decode cX6_look 222 = .ok (.dup, 1) := by decide +kernel
theorem dX6_look_223 : decode cX6_look 223 = .ok (.getfield 144, 3) := by decide +kernel
theorem dX6_look_226 : decode cX6_look 226 = .ok (.iconst 1, 1) := by decide +kernel
theorem dX6_look_227 : decode cX6_look 227 = .ok (.iadd, 1) := by decide +kernel
theorem dX6_look_228 : decode cX6_look 228 = .ok (.putfield 144, 3) := by decide +kernel
theorem dX6_look_231 : decode cX6_look 231 = .ok (.goto (-82), 3) := by decide +kernel
theorem dX6_look_234 : decode cX6_look 234 = .ok (.aload_n 0, 1) := by decide +kernel
theorem dX6_look_235 : decode cX6_look 235 = .ok (.aload_n 0, 1) := by decide +kernel
theorem dX6_look_236 : decode cX6_look 236 = .ok (.getfield 34, 3) := by decide +kernel
theorem dX6_look_239 : decode cX6_look 239 = .ok (.aload_n 0, 1) := by decide +kernel
theorem dX6_look_240 : decode cX6_look 240 = .ok (.getfield 144, 3) := by decide +kernel
theorem dX6_look_243 : decode cX6_look 243 = .ok (.iaload, 1) := by decide +kernel
theorem dX6_look_244 : decode cX6_look 244 = .ok (.bipush 59, 2) := by decide +kernel
theorem dX6_look_246 : decode cX6_look 246 = .ok (.if_icmp .ne 7, 3) := by decide +kernel
theorem dX6_look_249 : decode cX6_look 249 = .ok (.iconst 3, 1) := by decide +kernel
theorem dX6_look_250 : decode cX6_look 250 = .ok (.goto 4, 3) := by decide +kernel
theorem dX6_look_253 : decode cX6_look 253 = .ok (.iconst 4, 1) := by decide +kernel
theorem dX6_look_254 : decode cX6_look 254 = .ok (.putfield 154, 3) := by decide +kernel
theorem dX6_look_257 : decode cX6_look 257 = .ok (.aload_n 0, 1) := by decide +kernel
theorem dX6_look_258 : decode cX6_look 258 = .ok (.dup, 1) := by decide +kernel
theorem dX6_look_259 : decode cX6_look 259 = .ok (.getfield 144, 3) := by decide +kernel
theorem dX6_look_262 : decode cX6_look 262 = .ok (.iconst 1, 1) := by decide +kernel
theorem dX6_look_263 : decode cX6_look 263 = .ok (.iadd, 1) := by decide +kernel
theorem dX6_look_264 : decode cX6_look 264 = .ok (.putfield 144, 3) := by decide +kernel
theorem dX6_look_267 : decode cX6_look 267 = .ok (.return_, 1) := by decide +kernel
theorem dX6_wrong_0 : decode cX6_wrong 0 = .ok (.aload_n 0, 1) := by decide +kernel
theorem dX6_wrong_1 : decode cX6_wrong 1 = .ok (.aload_n 0, 1) := by decide +kernel
theorem dX6_wrong_2 : decode cX6_wrong 2 = .ok (.getfield 147, 3) := by decide +kernel
theorem dX6_wrong_5 : decode cX6_wrong 5 = .ok (.putfield 167, 3) := by decide +kernel
theorem dX6_wrong_8 : decode cX6_wrong 8 = .ok (.iconst 0, 1) := by decide +kernel
theorem dX6_wrong_9 : decode cX6_wrong 9 = .ok (.ireturn, 1) := by decide +kernel
/-! the reference's lexer -/
def zlt (x : Int32) : Bool := decide (97 ≤ x) && decide (x ≤ 122)
def zdg (x : Int32) : Bool := decide (48 ≤ x) && decide (x ≤ 57)
def skF (f : Nat → Int32) : Nat → Nat → Nat
  | 0, i => i
  | n + 1, i => if f i = 32 then skF f n (i + 1) else i
theorem sk_go {f : Nat → Int32} {n i : Nat} (h : f i = 32) : skF f (n + 1) i = skF f n (i + 1) := if_pos h
theorem sk_no {f : Nat → Int32} {n i : Nat} (h : ¬ f i = 32) : skF f (n + 1) i = i := if_neg h
def wdF (pr : Int32 → Bool) (f : Nat → Int32) : Nat → Nat → Nat
  | 0, i => i
  | n + 1, i => if pr (f i) = true then wdF pr f n (i + 1) else i
theorem wd_go {pr : Int32 → Bool} {f : Nat → Int32} {n i : Nat} (h : pr (f i) = true) : wdF pr f (n + 1) i = wdF pr f n (i + 1) := if_pos h
theorem wd_no {pr : Int32 → Bool} {f : Nat → Int32} {n i : Nat} (h : pr (f i) = false) : wdF pr f (n + 1) i = i := if_neg (by rw [h]; decide)
def dgF (f : Nat → Int32) (a : Nat) : Nat → Nat → Int64 → Nat × Int64
  | 0, i, v => (i, v)
  | n + 1, i, v => if zdg (f i) = true then dgF f a n (i + 1) (if i < a + 3 then v * 10 + (f i).toInt64 - 48 else 100000) else (i, v)
theorem dg_go {f : Nat → Int32} {a n i : Nat} {v : Int64} (h : zdg (f i) = true) (h2 : ¬ i < a + 3) : dgF f a (n + 1) i v = dgF f a n (i + 1) 100000 := by rw [dgF, if_pos h, if_neg h2]
theorem dg_lt {f : Nat → Int32} {a n i : Nat} {v : Int64} (h : zdg (f i) = true) (h2 : i < a + 3) : dgF f a (n + 1) i v = dgF f a n (i + 1) (v * 10 + (f i).toInt64 - 48) := by rw [dgF, if_pos h, if_pos h2]
theorem dg_no {f : Nat → Int32} {a n i : Nat} {v : Int64} (h : zdg (f i) = false) : dgF f a (n + 1) i v = (i, v) := by rw [dgF, if_neg (by rw [h]; decide)]
theorem dg_ge {i a : Nat} (hi : i < 2 ^ 30) (ha : a < 2 ^ 30) (c : 3 ≤ nI i - nI a) : ¬ i < a + 3 := by
  rw [Int32.le_iff_toInt_le, pk_sub_toInt hi ha] at c
  have e : (3 : Int32).toInt = 3 := by decide
  rw [e] at c
  omega
theorem dg_l3 {i a : Nat} (hi : i < 2 ^ 30) (ha : a < 2 ^ 30) (c : ¬ 3 ≤ nI i - nI a) : i < a + 3 := by
  rw [Int32.le_iff_toInt_le, pk_sub_toInt hi ha] at c
  have e : (3 : Int32).toInt = 3 := by decide
  rw [e] at c
  omega
def lkF (f : Nat → Int32) (z a : Nat) : Nat × Int32 × Nat × Int64 := if skF f (z - a) a = z then (skF f (z - a) a, 0, skF f (z - a) a, 0) else if zlt (f (skF f (z - a) a)) = true then (skF f (z - a) a, 1, wdF zlt f (z - skF f (z - a) a) (skF f (z - a) a), 0) else if zdg (f (skF f (z - a) a)) = true then (skF f (z - a) a, 2, dgF f (skF f (z - a) a) (z - skF f (z - a) a) (skF f (z - a) a) 0) else (skF f (z - a) a, (if f (skF f (z - a) a) = 59 then 3 else 4), skF f (z - a) a + 1, 0)
theorem lk_w {f : Nat → Int32} {z a j : Nat} (hj : j = skF f (z - a) a) (hn : j < z) (h : zlt (f j) = true) : lkF f z a = (j, 1, wdF zlt f (z - j) j, 0) := by
  subst hj
  rw [lkF, if_neg (by omega), if_pos h]
theorem lk_d {f : Nat → Int32} {z a j : Nat} (hj : j = skF f (z - a) a) (hn : j < z) (h : zlt (f j) = false) (h2 : zdg (f j) = true) : lkF f z a = (j, 2, dgF f j (z - j) j 0) := by
  subst hj
  rw [lkF, if_neg (by omega), if_neg (by rw [h]; decide), if_pos h2]
theorem lk_3 {f : Nat → Int32} {z a j : Nat} (hj : j = skF f (z - a) a) (hn : j < z) (h : zlt (f j) = false) (h2 : zdg (f j) = false) (h3 : f j = 59) : lkF f z a = (j, 3, j + 1, 0) := by
  subst hj
  rw [lkF, if_neg (by omega), if_neg (by rw [h]; decide), if_neg (by rw [h2]; decide), if_pos h3]
theorem lk_4 {f : Nat → Int32} {z a j : Nat} (hj : j = skF f (z - a) a) (hn : j < z) (h : zlt (f j) = false) (h2 : zdg (f j) = false) (h3 : ¬ f j = 59) : lkF f z a = (j, 4, j + 1, 0) := by
  subst hj
  rw [lkF, if_neg (by omega), if_neg (by rw [h]; decide), if_neg (by rw [h2]; decide), if_neg h3]
theorem sk_le (f : Nat → Int32) : ∀ n i, i ≤ skF f n i ∧ skF f n i ≤ i + n := by
  intro n
  induction n with
  | zero => intro i; exact ⟨Nat.le_refl _, Nat.le_refl _⟩
  | succ n ih =>
    intro i
    unfold skF
    split
    · have := ih (i + 1); omega
    · omega
theorem wd_le (pr : Int32 → Bool) (f : Nat → Int32) : ∀ n i, i ≤ wdF pr f n i ∧ wdF pr f n i ≤ i + n := by
  intro n
  induction n with
  | zero => intro i; exact ⟨Nat.le_refl _, Nat.le_refl _⟩
  | succ n ih =>
    intro i
    unfold wdF
    split
    · have := ih (i + 1); omega
    · omega
theorem dg_le (f : Nat → Int32) (a : Nat) : ∀ n i v, i ≤ (dgF f a n i v).1 ∧ (dgF f a n i v).1 ≤ i + n := by
  intro n
  induction n with
  | zero => intro i v; exact ⟨Nat.le_refl _, Nat.le_refl _⟩
  | succ n ih =>
    intro i v
    unfold dgF
    split
    · have := ih (i + 1) (if i < a + 3 then v * 10 + (f i).toInt64 - 48 else 100000); omega
    · exact ⟨Nat.le_refl _, by show i ≤ _; omega⟩
/-- what a look leaves behind: places in order, and a step ahead unless it is at the end -/
theorem lk_ok (f : Nat → Int32) {z a : Nat} (h : a ≤ z) : a ≤ (lkF f z a).1 ∧ (lkF f z a).1 ≤ (lkF f z a).2.2.1 ∧ (lkF f z a).2.2.1 ≤ z ∧ ((lkF f z a).2.1 = 0 ∨ a < (lkF f z a).2.2.1) := by
  have h1 := sk_le f (z - a) a
  generalize hj : skF f (z - a) a = j at h1
  have hj' := hj.symm
  by_cases e : j = z
  · have : lkF f z a = (j, 0, j, 0) := by rw [lkF, hj, if_pos e]
    rw [this]
    exact ⟨h1.1, Nat.le_refl _, by show j ≤ z; omega, Or.inl rfl⟩
  · have hl : j < z := by omega
    cases hw : zlt (f j) with
    | true =>
      rw [lk_w hj' hl hw]
      obtain ⟨n, hn⟩ : ∃ n, z - j = n + 1 := ⟨z - j - 1, by omega⟩
      have h2 := wd_le zlt f n (j + 1)
      have h3 : wdF zlt f (z - j) j = wdF zlt f n (j + 1) := by rw [hn, wd_go hw]
      show a ≤ j ∧ j ≤ wdF zlt f (z - j) j ∧ wdF zlt f (z - j) j ≤ z ∧ (_ ∨ a < wdF zlt f (z - j) j)
      rw [h3]
      exact ⟨h1.1, by omega, by omega, Or.inr (by omega)⟩
    | false =>
      cases hd : zdg (f j) with
      | true =>
        rw [lk_d hj' hl hw hd]
        obtain ⟨n, hn⟩ : ∃ n, z - j = n + 1 := ⟨z - j - 1, by omega⟩
        have h2 := dg_le f j n (j + 1) (0 * 10 + (f j).toInt64 - 48)
        have h3 : dgF f j (z - j) j 0 = dgF f j n (j + 1) (0 * 10 + (f j).toInt64 - 48) := by rw [hn, dg_lt hd (by omega)]
        show a ≤ j ∧ j ≤ (dgF f j (z - j) j 0).1 ∧ (dgF f j (z - j) j 0).1 ≤ z ∧ (_ ∨ a < (dgF f j (z - j) j 0).1)
        rw [h3]
        exact ⟨h1.1, by omega, by omega, Or.inr (by omega)⟩
      | false =>
        by_cases h3 : f j = 59
        · rw [lk_3 hj' hl hw hd h3]
          exact ⟨h1.1, Nat.le_succ _, hl, Or.inr (by show a < j + 1; omega)⟩
        · rw [lk_4 hj' hl hw hd h3]
          exact ⟨h1.1, Nat.le_succ _, hl, Or.inr (by show a < j + 1; omega)⟩
def weF (f : Nat → Int32) (a : Nat) (w : List Int32) : Nat → Nat → Bool
  | 0, _ => true
  | n + 1, i => if f (a + i) = w.getD i 0 then weF f a w n (i + 1) else false
theorem we_go {f : Nat → Int32} {a : Nat} {w : List Int32} {n i : Nat} (h : f (a + i) = w.getD i 0) : weF f a w (n + 1) i = weF f a w n (i + 1) := if_pos h
theorem we_no {f : Nat → Int32} {a : Nat} {w : List Int32} {n i : Nat} (h : ¬ f (a + i) = w.getD i 0) : weF f a w (n + 1) i = false := if_neg h
/-- the token from a to b is the word -/
def isW (f : Nat → Int32) (a b : Nat) (tk : Int32) (w : List Int32) : Bool := decide (tk = 1) && (decide (b = a + w.length) && weF f a w w.length 0)
theorem isw_y {f : Nat → Int32} {a b : Nat} {tk : Int32} {w : List Int32} (h1 : tk = 1) (h2 : b = a + w.length) (h3 : weF f a w w.length 0 = true) : isW f a b tk w = true := by rw [isW, decide_eq_true h1, decide_eq_true h2, h3]; rfl
theorem isw_n1 {f : Nat → Int32} {a b : Nat} {tk : Int32} {w : List Int32} (h1 : ¬ tk = 1) : isW f a b tk w = false := by rw [isW, decide_eq_false h1]; rfl
theorem isw_n2 {f : Nat → Int32} {a b : Nat} {tk : Int32} {w : List Int32} (ha : a ≤ 250) (hb : b ≤ 250) (h2 : ¬ nI b - nI a = nI w.length) : isW f a b tk w = false := by
  rw [isW, decide_eq_false (p := b = a + w.length) (fun q => h2 (by rw [q, pk_sub (by omega)]; congr 1; omega)), Bool.false_and, Bool.and_false]
theorem isw_n3 {f : Nat → Int32} {a b : Nat} {tk : Int32} {w : List Int32} (h3 : weF f a w w.length 0 = false) : isW f a b tk w = false := by rw [isW, h3, Bool.and_false, Bool.and_false]
set_option maxHeartbeats 4000000 in
set_option maxRecDepth 100000 in
theorem c_X6_isLetter (l : Launch) (G : va_G) (cy : Nat → ClassId) (iA : Int32)   : MR l yX6_isLetter cX6_isLetter 1 (some .boolean) 1 G cy [] [.int iA] (vp_Si (fun r => (r = 1 ∧ zlt iA = true) ∨ (r = 0 ∧ zlt iA = false))) := by
  refine enR RX6 (by decide) rfl (Nat.le_of_ble_eq_true rfl) (fun p e s m below meth c ls hx hb hml hown hts hr hlocks hP hN hl => ?_)
  have hK := hN.1
  replace hl : lv_has ls 1 [(0, .int iA)] := hl
  refine lv_iload_n hx hb dX6_isLetter_0 rfl (lv_at hl 0 rfl) ?_
  refine lv_bipush (v := 97) hx hb dX6_isLetter_1 (by decide) ?_
  refine lv_icmp_lt (tgt := 16) hx hb dX6_isLetter_3 (by decide) (fun c_1 => ?_) (fun c_1 => ?_)
  · refine lv_iconst (v := 0) hx hb dX6_isLetter_16 (by decide) ?_
    exact endR hx hb hr hlocks rfl (Or.inr (⟨rfl, by show (decide _ && decide _) = false; rw [decide_eq_false (Int32.not_le.mpr c_1)]; rfl⟩)) dX6_isLetter_17
  · refine lv_iload_n hx hb dX6_isLetter_6 rfl (lv_at hl 0 rfl) ?_
    refine lv_bipush (v := 122) hx hb dX6_isLetter_7 (by decide) ?_
    refine lv_icmp_gt (tgt := 16) hx hb dX6_isLetter_9 (by decide) (fun c_2 => ?_) (fun c_2 => ?_)
    · refine lv_iconst (v := 0) hx hb dX6_isLetter_16 (by decide) ?_
      exact endR hx hb hr hlocks rfl (Or.inr (⟨rfl, by show (decide _ && decide _) = false; rw [decide_eq_false (p := _ ≤ _) (Int32.not_le.mpr c_2), Bool.and_false]⟩)) dX6_isLetter_17
    · refine lv_iconst (v := 1) hx hb dX6_isLetter_12 (by decide) ?_
      refine lv_goto (tgt := 17) hx hb dX6_isLetter_13 (by decide) ?_
      exact endR hx hb hr hlocks rfl (Or.inl (⟨rfl, by show (decide _ && decide _) = true; rw [decide_eq_true (Int32.not_lt.mp c_1), decide_eq_true (Int32.not_lt.mp c_2)]; rfl⟩)) dX6_isLetter_17
set_option maxHeartbeats 4000000 in
set_option maxRecDepth 100000 in
theorem c_X6_isDigit (l : Launch) (G : va_G) (cy : Nat → ClassId) (iA : Int32)   : MR l yX6_isDigit cX6_isDigit 1 (some .boolean) 1 G cy [] [.int iA] (vp_Si (fun r => (r = 1 ∧ zdg iA = true) ∨ (r = 0 ∧ zdg iA = false))) := by
  refine enR RX6 (by decide) rfl (Nat.le_of_ble_eq_true rfl) (fun p e s m below meth c ls hx hb hml hown hts hr hlocks hP hN hl => ?_)
  have hK := hN.1
  replace hl : lv_has ls 1 [(0, .int iA)] := hl
  refine lv_iload_n hx hb dX6_isDigit_0 rfl (lv_at hl 0 rfl) ?_
  refine lv_bipush (v := 48) hx hb dX6_isDigit_1 (by decide) ?_
  refine lv_icmp_lt (tgt := 16) hx hb dX6_isDigit_3 (by decide) (fun c_1 => ?_) (fun c_1 => ?_)
  · refine lv_iconst (v := 0) hx hb dX6_isDigit_16 (by decide) ?_
    exact endR hx hb hr hlocks rfl (Or.inr (⟨rfl, by show (decide _ && decide _) = false; rw [decide_eq_false (Int32.not_le.mpr c_1)]; rfl⟩)) dX6_isDigit_17
  · refine lv_iload_n hx hb dX6_isDigit_6 rfl (lv_at hl 0 rfl) ?_
    refine lv_bipush (v := 57) hx hb dX6_isDigit_7 (by decide) ?_
    refine lv_icmp_gt (tgt := 16) hx hb dX6_isDigit_9 (by decide) (fun c_2 => ?_) (fun c_2 => ?_)
    · refine lv_iconst (v := 0) hx hb dX6_isDigit_16 (by decide) ?_
      exact endR hx hb hr hlocks rfl (Or.inr (⟨rfl, by show (decide _ && decide _) = false; rw [decide_eq_false (p := _ ≤ _) (Int32.not_le.mpr c_2), Bool.and_false]⟩)) dX6_isDigit_17
    · refine lv_iconst (v := 1) hx hb dX6_isDigit_12 (by decide) ?_
      refine lv_goto (tgt := 17) hx hb dX6_isDigit_13 (by decide) ?_
      exact endR hx hb hr hlocks rfl (Or.inl (⟨rfl, by show (decide _ && decide _) = true; rw [decide_eq_true (Int32.not_lt.mp c_1), decide_eq_true (Int32.not_lt.mp c_2)]; rfl⟩)) dX6_isDigit_17
set_option maxHeartbeats 4000000 in
set_option maxRecDepth 100000 in
theorem c_X6_look (l : Launch) (G : va_G) (cy : Nat → ClassId) (sz : Nat) (qm : Nat) (v0 : Value) (v1 : Value) (v2 : Value) (v3 : Value) (v4 : Value) (v5 : Value) (v6 : Value) (qmt : Nat) (kZ : Nat) (v9 : Value) (tA : TA) (qmB : Nat) (qmO : Nat) (qmK : Nat) (iEn : Int32) (iTk : Int32) (v18 : Value) (v19 : Value) (kAt : Nat) (iTo : Int32) (iFr : Int32) (JFi : Int64) (iFa : Int32) (v25 : Value) (v26 : Value) (iLv : Int32) (iWs : Int32) (v29 : Value) (v30 : Value) (v31 : Value) (v32 : Value) (v33 : Value) (v34 : Value) (fMt : Nat → Int32)  (hZ : kZ ≤ 250) (hAt : kAt ≤ kZ) : MW l yX6_look cX6_look 1 none 2 0 0 G cy [zzO qm 5 [v0, v1, v2, v3, v4, v5, v6, .ref qmt, .int (nI kZ), v9, .int (nI (T_nb tA)), .ref qmB, .int (nI (T_np tA)), .ref qmO, .ref qmK, .int iEn, .int iTk, .int (T_sd tA), v18, v19, .int (nI kAt), .int iTo, .int iFr, .long JFi, .int iFa, v25, v26, .int iLv, .int iWs, v29, v30, v31, v32, v33, v34], zzI cy qmt 250 fMt] sz [.ref qm] (Wv G (fun u => u = [zzO qm 5 [v0, v1, v2, v3, v4, v5, v6, .ref qmt, .int (nI kZ), v9, .int (nI (T_nb tA)), .ref qmB, .int (nI (T_np tA)), .ref qmO, .ref qmK, .int iEn, .int iTk, .int (T_sd tA), v18, v19, .int (nI (lkF fMt kZ kAt).2.2.1), .int ((lkF fMt kZ kAt).2.1), .int (nI (lkF fMt kZ kAt).1), .long ((lkF fMt kZ kAt).2.2.2), .int iFa, v25, v26, .int iLv, .int iWs, v29, v30, v31, v32, v33, v34], zzI cy qmt 250 fMt])) := by
  refine enW RX6 (by decide) rfl (Nat.le_of_ble_eq_true rfl) (fun p e s m below meth c ls A hx hb hml hown hts hr hlocks hP hN hl hin hD hA hS => ?_)
  have hin : meth.name = _ := hin
  have hK := hN.1
  replace hl : lv_has ls 1 [(0, .ref qm)] := hl
  have lp_1 : ∀ (n_2 : Nat) (j_4 : Nat), 250 - j_4 < n_2 → kAt ≤ j_4 ∧ j_4 ≤ kZ → skF fMt (kZ - j_4) j_4 = skF fMt (kZ - kAt) kAt → ∀ (H : Heap) (locs : List Loc) (ls : Array Slot), va_P G CL [zzO qm 5 [v0, v1, v2, v3, v4, v5, v6, .ref qmt, .int (nI kZ), v9, .int (nI (T_nb tA)), .ref qmB, .int (nI (T_np tA)), .ref qmO, .ref qmK, .int iEn, .int iTk, .int (T_sd tA), v18, v19, .int (nI j_4), .int iTo, .int iFr, .long JFi, .int iFa, v25, v26, .int iLv, .int iWs, v29, v30, v31, v32, v33, v34], zzI cy qmt 250 fMt] H → va_D A [zzO qm 5 [v0, v1, v2, v3, v4, v5, v6, .ref qmt, .int (nI kZ), v9, .int (nI (T_nb tA)), .ref qmB, .int (nI (T_np tA)), .ref qmO, .ref qmK, .int iEn, .int iTk, .int (T_sd tA), v18, v19, .int (nI j_4), .int iTo, .int iFr, .long JFi, .int iFa, v25, v26, .int iLv, .int iWs, v29, v30, v31, v32, v33, v34], zzI cy qmt 250 fMt] → va_S A s.heap H locs → lv_has ls 1 [(0, .ref qm)] → W p l e (Rm 2 0 0) s m (List.toArray (α := Value) [.ref qm]) below meth c H locs 0 0 (MQ below ((Wv G (fun u => u = [zzO qm 5 [v0, v1, v2, v3, v4, v5, v6, .ref qmt, .int (nI kZ), v9, .int (nI (T_nb tA)), .ref qmB, .int (nI (T_np tA)), .ref qmO, .ref qmK, .int iEn, .int iTk, .int (T_sd tA), v18, v19, .int (nI (lkF fMt kZ kAt).2.2.1), .int ((lkF fMt kZ kAt).2.1), .int (nI (lkF fMt kZ kAt).1), .long ((lkF fMt kZ kAt).2.2.2), .int iFa, v25, v26, .int iLv, .int iWs, v29, v30, v31, v32, v33, v34], zzI cy qmt 250 fMt])) A) (List.toArray (α := Value) [.ref qm]) s 0 0 A) (F0 m 0 ls []) := by
    intro n_2
    induction n_2 with
    | zero => intro j_4 hm9; exact absurd hm9 (Nat.not_lt_zero _)
    | succ n_2 ih_3 =>
      intro j_4 hm_7 hj_5 hT_6 H locs ls hP hD hS hl
      refine lv_aload_n hx hb dX6_look_0 rfl (lv_at hl 0 rfl) ?_
      refine va_get (D := G) (ci := 5) (v := .int (nI j_4)) (C := RX6) (T := TX6) (N := 35) hx hb hts iX_X6 hown hK hP 0 rfl rfl 20 (by decide) (hts _ m_t870) (fun _ h9 => h9) rfl dX6_look_1 ?_
      refine lv_aload_n hx hb dX6_look_4 rfl (lv_at hl 0 rfl) ?_
      refine va_get (D := G) (ci := 5) (v := .int (nI kZ)) (C := RX6) (T := TX6) (N := 35) hx hb hts iX_X6 hown hK hP 0 rfl rfl 8 (by decide) (hts _ m_t858) (fun _ h9 => h9) rfl dX6_look_5 ?_
      refine lv_icmp_ge (tgt := 38) hx hb dX6_look_8 (by decide) (fun c_8 => ?_) (fun c_8 => ?_)
      · have hlt_9 : j_4 = kZ := Nat.le_antisymm (by omega) (lp_ge rfl rfl (by omega) (by omega) c_8)
        have hlt_9f : j_4 = skF fMt (kZ - kAt) kAt := by rw [← hT_6, hlt_9, Nat.sub_self]; rfl
        refine lv_aload_n hx hb dX6_look_38 rfl (lv_at hl 0 rfl) ?_
        refine lv_aload_n hx hb dX6_look_39 rfl (lv_at hl 0 rfl) ?_
        refine va_get (D := G) (ci := 5) (v := .int (nI j_4)) (C := RX6) (T := TX6) (N := 35) hx hb hts iX_X6 hown hK hP 0 rfl rfl 20 (by decide) (hts _ m_t870) (fun _ h9 => h9) rfl dX6_look_40 ?_
        refine va_put (D := G) (ci := 5) (v := .int (nI j_4)) (ty := .int) (C := RX6) (T := TX6) (N := 35) hx hb hts iX_X6 tyX6 tyX6_ok nmX6 hown hK hP hD hS 0 rfl rfl 22 (by decide) (hts _ m_t872) (fun _ h9 => h9) rfl (by decide +kernel) rfl rfl (Nat.le_of_ble_eq_true rfl) dX6_look_43 (fun H locs => ?_)
        clear hP hD hS
        intro hP hD hS
        have hPD := pd_as [zzO qm 5 [v0, v1, v2, v3, v4, v5, v6, .ref qmt, .int (nI kZ), v9, .int (nI (T_nb tA)), .ref qmB, .int (nI (T_np tA)), .ref qmO, .ref qmK, .int iEn, .int iTk, .int (T_sd tA), v18, v19, .int (nI j_4), .int iTo, .int (nI j_4), .long JFi, .int iFa, v25, v26, .int iLv, .int iWs, v29, v30, v31, v32, v33, v34], zzI cy qmt 250 fMt] hP hD rfl
        clear hP hD
        obtain ⟨hP, hD⟩ := hPD
        refine lv_aload_n hx hb dX6_look_46 rfl (lv_at hl 0 rfl) ?_
        refine lv_lconst (v := 0) hx hb dX6_look_47 (by decide) ?_
        refine va_put (D := G) (ci := 5) (v := .long 0) (ty := .long) (C := RX6) (T := TX6) (N := 35) hx hb hts iX_X6 tyX6 tyX6_ok nmX6 hown hK hP hD hS 0 rfl rfl 23 (by decide) (hts _ m_t873) (fun _ h9 => h9) rfl (by decide +kernel) rfl rfl (Nat.le_of_ble_eq_true rfl) dX6_look_48 (fun H locs => ?_)
        clear hP hD hS
        intro hP hD hS
        have hPD := pd_as [zzO qm 5 [v0, v1, v2, v3, v4, v5, v6, .ref qmt, .int (nI kZ), v9, .int (nI (T_nb tA)), .ref qmB, .int (nI (T_np tA)), .ref qmO, .ref qmK, .int iEn, .int iTk, .int (T_sd tA), v18, v19, .int (nI j_4), .int iTo, .int (nI j_4), .long 0, .int iFa, v25, v26, .int iLv, .int iWs, v29, v30, v31, v32, v33, v34], zzI cy qmt 250 fMt] hP hD rfl
        clear hP hD
        obtain ⟨hP, hD⟩ := hPD
        refine lv_aload_n hx hb dX6_look_51 rfl (lv_at hl 0 rfl) ?_
        refine va_get (D := G) (ci := 5) (v := .int (nI j_4)) (C := RX6) (T := TX6) (N := 35) hx hb hts iX_X6 hown hK hP 0 rfl rfl 20 (by decide) (hts _ m_t870) (fun _ h9 => h9) rfl dX6_look_52 ?_
        refine lv_aload_n hx hb dX6_look_55 rfl (lv_at hl 0 rfl) ?_
        refine va_get (D := G) (ci := 5) (v := .int (nI kZ)) (C := RX6) (T := TX6) (N := 35) hx hb hts iX_X6 hown hK hP 0 rfl rfl 8 (by decide) (hts _ m_t858) (fun _ h9 => h9) rfl dX6_look_56 ?_
        refine lv_icmp_ne (tgt := 70) hx hb dX6_look_59 (by decide) (fun c_10 => ?_) (fun c_10 => ?_)
        · have hne_11 : j_4 < kZ := Nat.lt_of_le_of_ne (by omega) (fun q => c_10 (congrArg nI q))
          refine lv_aload_n hx hb dX6_look_70 rfl (lv_at hl 0 rfl) ?_
          refine va_get (D := G) (ci := 5) (v := .ref qmt) (C := RX6) (T := TX6) (N := 35) hx hb hts iX_X6 hown hK hP 0 rfl rfl 7 (by decide) (hts _ m_t857) (fun _ h9 => h9) rfl dX6_look_71 ?_
          refine lv_aload_n hx hb dX6_look_74 rfl (lv_at hl 0 rfl) ?_
          refine va_get (D := G) (ci := 5) (v := .int (nI j_4)) (C := RX6) (T := TX6) (N := 35) hx hb hts iX_X6 hown hK hP 0 rfl rfl 20 (by decide) (hts _ m_t870) (fun _ h9 => h9) rfl dX6_look_75 ?_
          refine va_iald hx hb hK hP 1 0 rfl rfl (vp_in_nI (by omega) (by omega)) dX6_look_78 ?_
          refine lv_seti (v := fMt j_4) (congrArg fMt (nI_clamp (by omega))) ?_
          refine kRi (rS (As := [.int (fMt j_4)]) (rest := []) ⟨hx, hb, hml, hown, hts⟩ (c_X6_isLetter l G cy (fMt j_4)) L_X6_157 (preRS hN hP [] rfl) rfl ⟨Nat.le_of_ble_eq_true rfl, Nat.le_of_ble_eq_true rfl⟩ hl.1 (Nat.le_of_ble_eq_true rfl) dX6_look_79 ⟨Nat.le_of_ble_eq_true rfl, Nat.le_of_ble_eq_true rfl⟩) (fun r_12 h_13 => ?_)
          rcases h_13 with ⟨rfl, h_14⟩ | ⟨rfl, h_14⟩
          · refine lv_if_eq (tgt := 129) hx hb dX6_look_82 (by decide) (fun h9 => absurd h9 (by decide)) (fun _ => ?_)
            refine lv_aload_n hx hb dX6_look_85 rfl (lv_at hl 0 rfl) ?_
            refine lv_iconst (v := 1) hx hb dX6_look_86 (by decide) ?_
            refine va_put (D := G) (ci := 5) (v := .int 1) (ty := .int) (C := RX6) (T := TX6) (N := 35) hx hb hts iX_X6 tyX6 tyX6_ok nmX6 hown hK hP hD hS 0 rfl rfl 21 (by decide) (hts _ m_t871) (fun _ h9 => h9) rfl (by decide +kernel) rfl rfl (Nat.le_of_ble_eq_true rfl) dX6_look_87 (fun H locs => ?_)
            clear hP hD hS
            intro hP hD hS
            have hPD := pd_as [zzO qm 5 [v0, v1, v2, v3, v4, v5, v6, .ref qmt, .int (nI kZ), v9, .int (nI (T_nb tA)), .ref qmB, .int (nI (T_np tA)), .ref qmO, .ref qmK, .int iEn, .int iTk, .int (T_sd tA), v18, v19, .int (nI j_4), .int 1, .int (nI j_4), .long 0, .int iFa, v25, v26, .int iLv, .int iWs, v29, v30, v31, v32, v33, v34], zzI cy qmt 250 fMt] hP hD rfl
            clear hP hD
            obtain ⟨hP, hD⟩ := hPD
            have lp_16 : ∀ (n_17 : Nat) (m_19 : Nat), 250 - m_19 < n_17 → j_4 ≤ m_19 ∧ m_19 ≤ kZ → wdF zlt fMt (kZ - m_19) m_19 = wdF zlt fMt (kZ - j_4) j_4 → ∀ (H : Heap) (locs : List Loc) (ls : Array Slot), va_P G CL [zzO qm 5 [v0, v1, v2, v3, v4, v5, v6, .ref qmt, .int (nI kZ), v9, .int (nI (T_nb tA)), .ref qmB, .int (nI (T_np tA)), .ref qmO, .ref qmK, .int iEn, .int iTk, .int (T_sd tA), v18, v19, .int (nI m_19), .int 1, .int (nI j_4), .long 0, .int iFa, v25, v26, .int iLv, .int iWs, v29, v30, v31, v32, v33, v34], zzI cy qmt 250 fMt] H → va_D A [zzO qm 5 [v0, v1, v2, v3, v4, v5, v6, .ref qmt, .int (nI kZ), v9, .int (nI (T_nb tA)), .ref qmB, .int (nI (T_np tA)), .ref qmO, .ref qmK, .int iEn, .int iTk, .int (T_sd tA), v18, v19, .int (nI m_19), .int 1, .int (nI j_4), .long 0, .int iFa, v25, v26, .int iLv, .int iWs, v29, v30, v31, v32, v33, v34], zzI cy qmt 250 fMt] → va_S A s.heap H locs → lv_has ls 1 [(0, .ref qm)] → W p l e (Rm 2 0 0) s m (List.toArray (α := Value) [.ref qm]) below meth c H locs 0 0 (MQ below ((Wv G (fun u => u = [zzO qm 5 [v0, v1, v2, v3, v4, v5, v6, .ref qmt, .int (nI kZ), v9, .int (nI (T_nb tA)), .ref qmB, .int (nI (T_np tA)), .ref qmO, .ref qmK, .int iEn, .int iTk, .int (T_sd tA), v18, v19, .int (nI (lkF fMt kZ kAt).2.2.1), .int ((lkF fMt kZ kAt).2.1), .int (nI (lkF fMt kZ kAt).1), .long ((lkF fMt kZ kAt).2.2.2), .int iFa, v25, v26, .int iLv, .int iWs, v29, v30, v31, v32, v33, v34], zzI cy qmt 250 fMt])) A) (List.toArray (α := Value) [.ref qm]) s 0 0 A) (F0 m 90 ls []) := by
              intro n_17
              induction n_17 with
              | zero => intro m_19 hm9; exact absurd hm9 (Nat.not_lt_zero _)
              | succ n_17 ih_18 =>
                intro m_19 hm_22 hm_22 hU_21 H locs ls hP hD hS hl
                refine lv_aload_n hx hb dX6_look_90 rfl (lv_at hl 0 rfl) ?_
                refine va_get (D := G) (ci := 5) (v := .int (nI m_19)) (C := RX6) (T := TX6) (N := 35) hx hb hts iX_X6 hown hK hP 0 rfl rfl 20 (by decide) (hts _ m_t870) (fun _ h9 => h9) rfl dX6_look_91 ?_
                refine lv_aload_n hx hb dX6_look_94 rfl (lv_at hl 0 rfl) ?_
                refine va_get (D := G) (ci := 5) (v := .int (nI kZ)) (C := RX6) (T := TX6) (N := 35) hx hb hts iX_X6 hown hK hP 0 rfl rfl 8 (by decide) (hts _ m_t858) (fun _ h9 => h9) rfl dX6_look_95 ?_
                refine lv_icmp_ge (tgt := 267) hx hb dX6_look_98 (by decide) (fun c_23 => ?_) (fun c_23 => ?_)
                · have hlt_24 : m_19 = kZ := Nat.le_antisymm (by omega) (lp_ge rfl rfl (by omega) (by omega) c_23)
                  have hlt_24r : lkF fMt kZ kAt = (j_4, 1, m_19, 0) := by rw [lk_w hlt_9f hne_11 h_14, ← hU_21, show kZ - m_19 = 0 by omega]; rfl
                  exact endV (u := [zzO qm 5 [v0, v1, v2, v3, v4, v5, v6, .ref qmt, .int (nI kZ), v9, .int (nI (T_nb tA)), .ref qmB, .int (nI (T_np tA)), .ref qmO, .ref qmK, .int iEn, .int iTk, .int (T_sd tA), v18, v19, .int (nI m_19), .int 1, .int (nI j_4), .long 0, .int iFa, v25, v26, .int iLv, .int iWs, v29, v30, v31, v32, v33, v34], zzI cy qmt 250 fMt]) hx hb hr hlocks (hP.sub [0, 1] rfl) (hD.sub [0, 1] (by decide +kernel) rfl) hS (by rw [hlt_24r]) dX6_look_267
                · have hlt_25 : m_19 < kZ := lp_lt rfl rfl (by omega) (by omega) c_23
                  refine lv_aload_n hx hb dX6_look_101 rfl (lv_at hl 0 rfl) ?_
                  refine va_get (D := G) (ci := 5) (v := .ref qmt) (C := RX6) (T := TX6) (N := 35) hx hb hts iX_X6 hown hK hP 0 rfl rfl 7 (by decide) (hts _ m_t857) (fun _ h9 => h9) rfl dX6_look_102 ?_
                  refine lv_aload_n hx hb dX6_look_105 rfl (lv_at hl 0 rfl) ?_
                  refine va_get (D := G) (ci := 5) (v := .int (nI m_19)) (C := RX6) (T := TX6) (N := 35) hx hb hts iX_X6 hown hK hP 0 rfl rfl 20 (by decide) (hts _ m_t870) (fun _ h9 => h9) rfl dX6_look_106 ?_
                  refine va_iald hx hb hK hP 1 0 rfl rfl (vp_in_nI (by omega) (by omega)) dX6_look_109 ?_
                  refine lv_seti (v := fMt m_19) (congrArg fMt (nI_clamp (by omega))) ?_
                  refine kRi (rS (As := [.int (fMt m_19)]) (rest := []) ⟨hx, hb, hml, hown, hts⟩ (c_X6_isLetter l G cy (fMt m_19)) L_X6_157 (preRS hN hP [] rfl) rfl ⟨Nat.le_of_ble_eq_true rfl, Nat.le_of_ble_eq_true rfl⟩ hl.1 (Nat.le_of_ble_eq_true rfl) dX6_look_110 ⟨Nat.le_of_ble_eq_true rfl, Nat.le_of_ble_eq_true rfl⟩) (fun r_26 h_27 => ?_)
                  rcases h_27 with ⟨rfl, h_28⟩ | ⟨rfl, h_28⟩
                  · refine lv_if_eq (tgt := 267) hx hb dX6_look_113 (by decide) (fun h9 => absurd h9 (by decide)) (fun _ => ?_)
                    refine lv_aload_n hx hb dX6_look_116 rfl (lv_at hl 0 rfl) ?_
                    refine lv_dup hx hb dX6_look_117 rfl ?_
                    refine va_get (D := G) (ci := 5) (v := .int (nI m_19)) (C := RX6) (T := TX6) (N := 35) hx hb hts iX_X6 hown hK hP 0 rfl rfl 20 (by decide) (hts _ m_t870) (fun _ h9 => h9) rfl dX6_look_118 ?_
                    refine lv_iconst (v := 1) hx hb dX6_look_121 (by decide) ?_
                    refine lv_iadd hx hb dX6_look_122 ?_
                    refine lv_seti (v := nI (m_19 + 1)) (nI_1 _) ?_
                    refine va_put (D := G) (ci := 5) (v := .int (nI (m_19 + 1))) (ty := .int) (C := RX6) (T := TX6) (N := 35) hx hb hts iX_X6 tyX6 tyX6_ok nmX6 hown hK hP hD hS 0 rfl rfl 20 (by decide) (hts _ m_t870) (fun _ h9 => h9) rfl (by decide +kernel) rfl rfl (Nat.le_of_ble_eq_true rfl) dX6_look_123 (fun H locs => ?_)
                    clear hP hD hS
                    intro hP hD hS
                    have hPD := pd_as [zzO qm 5 [v0, v1, v2, v3, v4, v5, v6, .ref qmt, .int (nI kZ), v9, .int (nI (T_nb tA)), .ref qmB, .int (nI (T_np tA)), .ref qmO, .ref qmK, .int iEn, .int iTk, .int (T_sd tA), v18, v19, .int (nI (m_19 + 1)), .int 1, .int (nI j_4), .long 0, .int iFa, v25, v26, .int iLv, .int iWs, v29, v30, v31, v32, v33, v34], zzI cy qmt 250 fMt] hP hD rfl
                    clear hP hD
                    obtain ⟨hP, hD⟩ := hPD
                    refine lv_goto (tgt := 90) hx hb dX6_look_126 (by decide) ?_
                    exact ih_18 (m_19 + 1) (by omega) (⟨by omega, by omega⟩) (by rw [← hU_21, show kZ - m_19 = kZ - (m_19 + 1) + 1 by omega, wd_go h_28]) _ _ _ hP hD hS (lv_sub hl [0] rfl)
                  · refine lv_if_eq (tgt := 267) hx hb dX6_look_113 (by decide) (fun _ => ?_) (fun h9 => absurd (by decide) h9)
                    have hz_31r : lkF fMt kZ kAt = (j_4, 1, m_19, 0) := by rw [lk_w hlt_9f hne_11 h_14, ← hU_21, show kZ - m_19 = kZ - (m_19 + 1) + 1 by omega, wd_no h_28]
                    exact endV (u := [zzO qm 5 [v0, v1, v2, v3, v4, v5, v6, .ref qmt, .int (nI kZ), v9, .int (nI (T_nb tA)), .ref qmB, .int (nI (T_np tA)), .ref qmO, .ref qmK, .int iEn, .int iTk, .int (T_sd tA), v18, v19, .int (nI m_19), .int 1, .int (nI j_4), .long 0, .int iFa, v25, v26, .int iLv, .int iWs, v29, v30, v31, v32, v33, v34], zzI cy qmt 250 fMt]) hx hb hr hlocks (hP.sub [0, 1] rfl) (hD.sub [0, 1] (by decide +kernel) rfl) hS (by rw [hz_31r]) dX6_look_267
            exact lp_16 ((250 - j_4) + 1) j_4 (Nat.lt_succ_self _) (⟨Nat.le_refl _, by omega⟩) rfl _ _ ls hP hD hS (lv_sub hl [0] rfl)
          · refine lv_if_eq (tgt := 129) hx hb dX6_look_82 (by decide) (fun _ => ?_) (fun h9 => absurd (by decide) h9)
            refine lv_aload_n hx hb dX6_look_129 rfl (lv_at hl 0 rfl) ?_
            refine va_get (D := G) (ci := 5) (v := .ref qmt) (C := RX6) (T := TX6) (N := 35) hx hb hts iX_X6 hown hK hP 0 rfl rfl 7 (by decide) (hts _ m_t857) (fun _ h9 => h9) rfl dX6_look_130 ?_
            refine lv_aload_n hx hb dX6_look_133 rfl (lv_at hl 0 rfl) ?_
            refine va_get (D := G) (ci := 5) (v := .int (nI j_4)) (C := RX6) (T := TX6) (N := 35) hx hb hts iX_X6 hown hK hP 0 rfl rfl 20 (by decide) (hts _ m_t870) (fun _ h9 => h9) rfl dX6_look_134 ?_
            refine va_iald hx hb hK hP 1 0 rfl rfl (vp_in_nI (by omega) (by omega)) dX6_look_137 ?_
            refine lv_seti (v := fMt j_4) (congrArg fMt (nI_clamp (by omega))) ?_
            refine kRi (rS (As := [.int (fMt j_4)]) (rest := []) ⟨hx, hb, hml, hown, hts⟩ (c_X6_isDigit l G cy (fMt j_4)) L_X6_160 (preRS hN hP [] rfl) rfl ⟨Nat.le_of_ble_eq_true rfl, Nat.le_of_ble_eq_true rfl⟩ hl.1 (Nat.le_of_ble_eq_true rfl) dX6_look_138 ⟨Nat.le_of_ble_eq_true rfl, Nat.le_of_ble_eq_true rfl⟩) (fun r_33 h_34 => ?_)
            rcases h_34 with ⟨rfl, h_35⟩ | ⟨rfl, h_35⟩
            · refine lv_if_eq (tgt := 234) hx hb dX6_look_141 (by decide) (fun h9 => absurd h9 (by decide)) (fun _ => ?_)
              refine lv_aload_n hx hb dX6_look_144 rfl (lv_at hl 0 rfl) ?_
              refine lv_iconst (v := 2) hx hb dX6_look_145 (by decide) ?_
              refine va_put (D := G) (ci := 5) (v := .int 2) (ty := .int) (C := RX6) (T := TX6) (N := 35) hx hb hts iX_X6 tyX6 tyX6_ok nmX6 hown hK hP hD hS 0 rfl rfl 21 (by decide) (hts _ m_t871) (fun _ h9 => h9) rfl (by decide +kernel) rfl rfl (Nat.le_of_ble_eq_true rfl) dX6_look_146 (fun H locs => ?_)
              clear hP hD hS
              intro hP hD hS
              have hPD := pd_as [zzO qm 5 [v0, v1, v2, v3, v4, v5, v6, .ref qmt, .int (nI kZ), v9, .int (nI (T_nb tA)), .ref qmB, .int (nI (T_np tA)), .ref qmO, .ref qmK, .int iEn, .int iTk, .int (T_sd tA), v18, v19, .int (nI j_4), .int 2, .int (nI j_4), .long 0, .int iFa, v25, v26, .int iLv, .int iWs, v29, v30, v31, v32, v33, v34], zzI cy qmt 250 fMt] hP hD rfl
              clear hP hD
              obtain ⟨hP, hD⟩ := hPD
              have lp_37 : ∀ (n_38 : Nat) (m_40 : Nat) (xF_41 : Int64), 250 - m_40 < n_38 → j_4 ≤ m_40 ∧ m_40 ≤ kZ → dgF fMt j_4 (kZ - m_40) m_40 xF_41 = dgF fMt j_4 (kZ - j_4) j_4 0 → ∀ (H : Heap) (locs : List Loc) (ls : Array Slot), va_P G CL [zzO qm 5 [v0, v1, v2, v3, v4, v5, v6, .ref qmt, .int (nI kZ), v9, .int (nI (T_nb tA)), .ref qmB, .int (nI (T_np tA)), .ref qmO, .ref qmK, .int iEn, .int iTk, .int (T_sd tA), v18, v19, .int (nI m_40), .int 2, .int (nI j_4), .long xF_41, .int iFa, v25, v26, .int iLv, .int iWs, v29, v30, v31, v32, v33, v34], zzI cy qmt 250 fMt] H → va_D A [zzO qm 5 [v0, v1, v2, v3, v4, v5, v6, .ref qmt, .int (nI kZ), v9, .int (nI (T_nb tA)), .ref qmB, .int (nI (T_np tA)), .ref qmO, .ref qmK, .int iEn, .int iTk, .int (T_sd tA), v18, v19, .int (nI m_40), .int 2, .int (nI j_4), .long xF_41, .int iFa, v25, v26, .int iLv, .int iWs, v29, v30, v31, v32, v33, v34], zzI cy qmt 250 fMt] → va_S A s.heap H locs → lv_has ls 1 [(0, .ref qm)] → W p l e (Rm 2 0 0) s m (List.toArray (α := Value) [.ref qm]) below meth c H locs 0 0 (MQ below ((Wv G (fun u => u = [zzO qm 5 [v0, v1, v2, v3, v4, v5, v6, .ref qmt, .int (nI kZ), v9, .int (nI (T_nb tA)), .ref qmB, .int (nI (T_np tA)), .ref qmO, .ref qmK, .int iEn, .int iTk, .int (T_sd tA), v18, v19, .int (nI (lkF fMt kZ kAt).2.2.1), .int ((lkF fMt kZ kAt).2.1), .int (nI (lkF fMt kZ kAt).1), .long ((lkF fMt kZ kAt).2.2.2), .int iFa, v25, v26, .int iLv, .int iWs, v29, v30, v31, v32, v33, v34], zzI cy qmt 250 fMt])) A) (List.toArray (α := Value) [.ref qm]) s 0 0 A) (F0 m 149 ls []) := by
                intro n_38
                induction n_38 with
                | zero => intro m_40 xF_41 hm9; exact absurd hm9 (Nat.not_lt_zero _)
                | succ n_38 ih_39 =>
                  intro m_40 xF_41 hm_44 hm_44 hU_43 H locs ls hP hD hS hl
                  refine lv_aload_n hx hb dX6_look_149 rfl (lv_at hl 0 rfl) ?_
                  refine va_get (D := G) (ci := 5) (v := .int (nI m_40)) (C := RX6) (T := TX6) (N := 35) hx hb hts iX_X6 hown hK hP 0 rfl rfl 20 (by decide) (hts _ m_t870) (fun _ h9 => h9) rfl dX6_look_150 ?_
                  refine lv_aload_n hx hb dX6_look_153 rfl (lv_at hl 0 rfl) ?_
                  refine va_get (D := G) (ci := 5) (v := .int (nI kZ)) (C := RX6) (T := TX6) (N := 35) hx hb hts iX_X6 hown hK hP 0 rfl rfl 8 (by decide) (hts _ m_t858) (fun _ h9 => h9) rfl dX6_look_154 ?_
                  refine lv_icmp_ge (tgt := 267) hx hb dX6_look_157 (by decide) (fun c_45 => ?_) (fun c_45 => ?_)
                  · have hlt_46 : m_40 = kZ := Nat.le_antisymm (by omega) (lp_ge rfl rfl (by omega) (by omega) c_45)
                    have hlt_46r : lkF fMt kZ kAt = (j_4, 2, m_40, xF_41) := by rw [lk_d hlt_9f hne_11 h_14 h_35, ← hU_43, show kZ - m_40 = 0 by omega]; rfl
                    exact endV (u := [zzO qm 5 [v0, v1, v2, v3, v4, v5, v6, .ref qmt, .int (nI kZ), v9, .int (nI (T_nb tA)), .ref qmB, .int (nI (T_np tA)), .ref qmO, .ref qmK, .int iEn, .int iTk, .int (T_sd tA), v18, v19, .int (nI m_40), .int 2, .int (nI j_4), .long xF_41, .int iFa, v25, v26, .int iLv, .int iWs, v29, v30, v31, v32, v33, v34], zzI cy qmt 250 fMt]) hx hb hr hlocks (hP.sub [0, 1] rfl) (hD.sub [0, 1] (by decide +kernel) rfl) hS (by rw [hlt_46r]) dX6_look_267
                  · have hlt_47 : m_40 < kZ := lp_lt rfl rfl (by omega) (by omega) c_45
                    refine lv_aload_n hx hb dX6_look_160 rfl (lv_at hl 0 rfl) ?_
                    refine va_get (D := G) (ci := 5) (v := .ref qmt) (C := RX6) (T := TX6) (N := 35) hx hb hts iX_X6 hown hK hP 0 rfl rfl 7 (by decide) (hts _ m_t857) (fun _ h9 => h9) rfl dX6_look_161 ?_
                    refine lv_aload_n hx hb dX6_look_164 rfl (lv_at hl 0 rfl) ?_
                    refine va_get (D := G) (ci := 5) (v := .int (nI m_40)) (C := RX6) (T := TX6) (N := 35) hx hb hts iX_X6 hown hK hP 0 rfl rfl 20 (by decide) (hts _ m_t870) (fun _ h9 => h9) rfl dX6_look_165 ?_
                    refine va_iald hx hb hK hP 1 0 rfl rfl (vp_in_nI (by omega) (by omega)) dX6_look_168 ?_
                    refine lv_seti (v := fMt m_40) (congrArg fMt (nI_clamp (by omega))) ?_
                    refine kRi (rS (As := [.int (fMt m_40)]) (rest := []) ⟨hx, hb, hml, hown, hts⟩ (c_X6_isDigit l G cy (fMt m_40)) L_X6_160 (preRS hN hP [] rfl) rfl ⟨Nat.le_of_ble_eq_true rfl, Nat.le_of_ble_eq_true rfl⟩ hl.1 (Nat.le_of_ble_eq_true rfl) dX6_look_169 ⟨Nat.le_of_ble_eq_true rfl, Nat.le_of_ble_eq_true rfl⟩) (fun r_48 h_49 => ?_)
                    rcases h_49 with ⟨rfl, h_50⟩ | ⟨rfl, h_50⟩
                    · refine lv_if_eq (tgt := 267) hx hb dX6_look_172 (by decide) (fun h9 => absurd h9 (by decide)) (fun _ => ?_)
                      refine lv_aload_n hx hb dX6_look_175 rfl (lv_at hl 0 rfl) ?_
                      refine lv_aload_n hx hb dX6_look_176 rfl (lv_at hl 0 rfl) ?_
                      refine va_get (D := G) (ci := 5) (v := .int (nI m_40)) (C := RX6) (T := TX6) (N := 35) hx hb hts iX_X6 hown hK hP 0 rfl rfl 20 (by decide) (hts _ m_t870) (fun _ h9 => h9) rfl dX6_look_177 ?_
                      refine lv_aload_n hx hb dX6_look_180 rfl (lv_at hl 0 rfl) ?_
                      refine va_get (D := G) (ci := 5) (v := .int (nI j_4)) (C := RX6) (T := TX6) (N := 35) hx hb hts iX_X6 hown hK hP 0 rfl rfl 22 (by decide) (hts _ m_t872) (fun _ h9 => h9) rfl dX6_look_181 ?_
                      refine lv_isub hx hb dX6_look_184 ?_
                      refine lv_iconst (v := 3) hx hb dX6_look_185 (by decide) ?_
                      refine lv_icmp_ge (tgt := 215) hx hb dX6_look_186 (by decide) (fun c_52 => ?_) (fun c_52 => ?_)
                      · refine lv_ldc2 hx hb hown (hts _ m_t1139) dX6_look_215 ?_
                        refine va_put (D := G) (ci := 5) (v := .long 100000) (ty := .long) (C := RX6) (T := TX6) (N := 35) hx hb hts iX_X6 tyX6 tyX6_ok nmX6 hown hK hP hD hS 0 rfl rfl 23 (by decide) (hts _ m_t873) (fun _ h9 => h9) rfl (by decide +kernel) rfl rfl (Nat.le_of_ble_eq_true rfl) dX6_look_218 (fun H locs => ?_)
                        clear hP hD hS
                        intro hP hD hS
                        have hPD := pd_as [zzO qm 5 [v0, v1, v2, v3, v4, v5, v6, .ref qmt, .int (nI kZ), v9, .int (nI (T_nb tA)), .ref qmB, .int (nI (T_np tA)), .ref qmO, .ref qmK, .int iEn, .int iTk, .int (T_sd tA), v18, v19, .int (nI m_40), .int 2, .int (nI j_4), .long 100000, .int iFa, v25, v26, .int iLv, .int iWs, v29, v30, v31, v32, v33, v34], zzI cy qmt 250 fMt] hP hD rfl
                        clear hP hD
                        obtain ⟨hP, hD⟩ := hPD
                        refine lv_aload_n hx hb dX6_look_221 rfl (lv_at hl 0 rfl) ?_
                        refine lv_dup hx hb dX6_look_222 rfl ?_
                        refine va_get (D := G) (ci := 5) (v := .int (nI m_40)) (C := RX6) (T := TX6) (N := 35) hx hb hts iX_X6 hown hK hP 0 rfl rfl 20 (by decide) (hts _ m_t870) (fun _ h9 => h9) rfl dX6_look_223 ?_
                        refine lv_iconst (v := 1) hx hb dX6_look_226 (by decide) ?_
                        refine lv_iadd hx hb dX6_look_227 ?_
                        refine lv_seti (v := nI (m_40 + 1)) (nI_1 _) ?_
                        refine va_put (D := G) (ci := 5) (v := .int (nI (m_40 + 1))) (ty := .int) (C := RX6) (T := TX6) (N := 35) hx hb hts iX_X6 tyX6 tyX6_ok nmX6 hown hK hP hD hS 0 rfl rfl 20 (by decide) (hts _ m_t870) (fun _ h9 => h9) rfl (by decide +kernel) rfl rfl (Nat.le_of_ble_eq_true rfl) dX6_look_228 (fun H locs => ?_)
                        clear hP hD hS
                        intro hP hD hS
                        have hPD := pd_as [zzO qm 5 [v0, v1, v2, v3, v4, v5, v6, .ref qmt, .int (nI kZ), v9, .int (nI (T_nb tA)), .ref qmB, .int (nI (T_np tA)), .ref qmO, .ref qmK, .int iEn, .int iTk, .int (T_sd tA), v18, v19, .int (nI (m_40 + 1)), .int 2, .int (nI j_4), .long 100000, .int iFa, v25, v26, .int iLv, .int iWs, v29, v30, v31, v32, v33, v34], zzI cy qmt 250 fMt] hP hD rfl
                        clear hP hD
                        obtain ⟨hP, hD⟩ := hPD
                        refine lv_goto (tgt := 149) hx hb dX6_look_231 (by decide) ?_
                        exact ih_39 (m_40 + 1) 100000 (by omega) (⟨by omega, by omega⟩) (by rw [← hU_43, show kZ - m_40 = kZ - (m_40 + 1) + 1 by omega, dg_go h_50 (dg_ge (by omega) (by omega) c_52)]) _ _ _ hP hD hS (lv_sub hl [0] rfl)
                      · refine lv_aload_n hx hb dX6_look_189 rfl (lv_at hl 0 rfl) ?_
                        refine va_get (D := G) (ci := 5) (v := .long xF_41) (C := RX6) (T := TX6) (N := 35) hx hb hts iX_X6 hown hK hP 0 rfl rfl 23 (by decide) (hts _ m_t873) (fun _ h9 => h9) rfl dX6_look_190 ?_
                        refine lv_ldc2 hx hb hown (hts _ m_t1103) dX6_look_193 ?_
                        refine lv_lmul hx hb dX6_look_196 ?_
                        refine lv_aload_n hx hb dX6_look_197 rfl (lv_at hl 0 rfl) ?_
                        refine va_get (D := G) (ci := 5) (v := .ref qmt) (C := RX6) (T := TX6) (N := 35) hx hb hts iX_X6 hown hK hP 0 rfl rfl 7 (by decide) (hts _ m_t857) (fun _ h9 => h9) rfl dX6_look_198 ?_
                        refine lv_aload_n hx hb dX6_look_201 rfl (lv_at hl 0 rfl) ?_
                        refine va_get (D := G) (ci := 5) (v := .int (nI m_40)) (C := RX6) (T := TX6) (N := 35) hx hb hts iX_X6 hown hK hP 0 rfl rfl 20 (by decide) (hts _ m_t870) (fun _ h9 => h9) rfl dX6_look_202 ?_
                        refine va_iald hx hb hK hP 1 0 rfl rfl (vp_in_nI (by omega) (by omega)) dX6_look_205 ?_
                        refine lv_seti (v := fMt m_40) (congrArg fMt (nI_clamp (by omega))) ?_
                        refine lv_i2l (v := (fMt m_40).toInt64) hx hb dX6_look_206 rfl ?_
                        refine lv_ladd hx hb dX6_look_207 ?_
                        refine lv_ldc2 hx hb hown (hts _ m_t1138) dX6_look_208 ?_
                        refine lv_lsub hx hb dX6_look_211 ?_
                        refine lv_goto (tgt := 218) hx hb dX6_look_212 (by decide) ?_
                        refine va_put (D := G) (ci := 5) (v := .long (((xF_41 * 10) + ((fMt m_40).toInt64)) - 48)) (ty := .long) (C := RX6) (T := TX6) (N := 35) hx hb hts iX_X6 tyX6 tyX6_ok nmX6 hown hK hP hD hS 0 rfl rfl 23 (by decide) (hts _ m_t873) (fun _ h9 => h9) rfl (by decide +kernel) rfl rfl (Nat.le_of_ble_eq_true rfl) dX6_look_218 (fun H locs => ?_)
                        clear hP hD hS
                        intro hP hD hS
                        have hPD := pd_as [zzO qm 5 [v0, v1, v2, v3, v4, v5, v6, .ref qmt, .int (nI kZ), v9, .int (nI (T_nb tA)), .ref qmB, .int (nI (T_np tA)), .ref qmO, .ref qmK, .int iEn, .int iTk, .int (T_sd tA), v18, v19, .int (nI m_40), .int 2, .int (nI j_4), .long (((xF_41 * 10) + ((fMt m_40).toInt64)) - 48), .int iFa, v25, v26, .int iLv, .int iWs, v29, v30, v31, v32, v33, v34], zzI cy qmt 250 fMt] hP hD rfl
                        clear hP hD
                        obtain ⟨hP, hD⟩ := hPD
                        refine lv_aload_n hx hb dX6_look_221 rfl (lv_at hl 0 rfl) ?_
                        refine lv_dup hx hb dX6_look_222 rfl ?_
                        refine va_get (D := G) (ci := 5) (v := .int (nI m_40)) (C := RX6) (T := TX6) (N := 35) hx hb hts iX_X6 hown hK hP 0 rfl rfl 20 (by decide) (hts _ m_t870) (fun _ h9 => h9) rfl dX6_look_223 ?_
                        refine lv_iconst (v := 1) hx hb dX6_look_226 (by decide) ?_
                        refine lv_iadd hx hb dX6_look_227 ?_
                        refine lv_seti (v := nI (m_40 + 1)) (nI_1 _) ?_
                        refine va_put (D := G) (ci := 5) (v := .int (nI (m_40 + 1))) (ty := .int) (C := RX6) (T := TX6) (N := 35) hx hb hts iX_X6 tyX6 tyX6_ok nmX6 hown hK hP hD hS 0 rfl rfl 20 (by decide) (hts _ m_t870) (fun _ h9 => h9) rfl (by decide +kernel) rfl rfl (Nat.le_of_ble_eq_true rfl) dX6_look_228 (fun H locs => ?_)
                        clear hP hD hS
                        intro hP hD hS
                        have hPD := pd_as [zzO qm 5 [v0, v1, v2, v3, v4, v5, v6, .ref qmt, .int (nI kZ), v9, .int (nI (T_nb tA)), .ref qmB, .int (nI (T_np tA)), .ref qmO, .ref qmK, .int iEn, .int iTk, .int (T_sd tA), v18, v19, .int (nI (m_40 + 1)), .int 2, .int (nI j_4), .long (((xF_41 * 10) + ((fMt m_40).toInt64)) - 48), .int iFa, v25, v26, .int iLv, .int iWs, v29, v30, v31, v32, v33, v34], zzI cy qmt 250 fMt] hP hD rfl
                        clear hP hD
                        obtain ⟨hP, hD⟩ := hPD
                        refine lv_goto (tgt := 149) hx hb dX6_look_231 (by decide) ?_
                        exact ih_39 (m_40 + 1) (((xF_41 * 10) + ((fMt m_40).toInt64)) - 48) (by omega) (⟨by omega, by omega⟩) (by rw [← hU_43, show kZ - m_40 = kZ - (m_40 + 1) + 1 by omega, dg_lt h_50 (dg_l3 (by omega) (by omega) c_52)]) _ _ _ hP hD hS (lv_sub hl [0] rfl)
                    · refine lv_if_eq (tgt := 267) hx hb dX6_look_172 (by decide) (fun _ => ?_) (fun h9 => absurd (by decide) h9)
                      have hz_54r : lkF fMt kZ kAt = (j_4, 2, m_40, xF_41) := by rw [lk_d hlt_9f hne_11 h_14 h_35, ← hU_43, show kZ - m_40 = kZ - (m_40 + 1) + 1 by omega, dg_no h_50]
                      exact endV (u := [zzO qm 5 [v0, v1, v2, v3, v4, v5, v6, .ref qmt, .int (nI kZ), v9, .int (nI (T_nb tA)), .ref qmB, .int (nI (T_np tA)), .ref qmO, .ref qmK, .int iEn, .int iTk, .int (T_sd tA), v18, v19, .int (nI m_40), .int 2, .int (nI j_4), .long xF_41, .int iFa, v25, v26, .int iLv, .int iWs, v29, v30, v31, v32, v33, v34], zzI cy qmt 250 fMt]) hx hb hr hlocks (hP.sub [0, 1] rfl) (hD.sub [0, 1] (by decide +kernel) rfl) hS (by rw [hz_54r]) dX6_look_267
              exact lp_37 ((250 - j_4) + 1) j_4 0 (Nat.lt_succ_self _) (⟨Nat.le_refl _, by omega⟩) rfl _ _ ls hP hD hS (lv_sub hl [0] rfl)
            · refine lv_if_eq (tgt := 234) hx hb dX6_look_141 (by decide) (fun _ => ?_) (fun h9 => absurd (by decide) h9)
              refine lv_aload_n hx hb dX6_look_234 rfl (lv_at hl 0 rfl) ?_
              refine lv_aload_n hx hb dX6_look_235 rfl (lv_at hl 0 rfl) ?_
              refine va_get (D := G) (ci := 5) (v := .ref qmt) (C := RX6) (T := TX6) (N := 35) hx hb hts iX_X6 hown hK hP 0 rfl rfl 7 (by decide) (hts _ m_t857) (fun _ h9 => h9) rfl dX6_look_236 ?_
              refine lv_aload_n hx hb dX6_look_239 rfl (lv_at hl 0 rfl) ?_
              refine va_get (D := G) (ci := 5) (v := .int (nI j_4)) (C := RX6) (T := TX6) (N := 35) hx hb hts iX_X6 hown hK hP 0 rfl rfl 20 (by decide) (hts _ m_t870) (fun _ h9 => h9) rfl dX6_look_240 ?_
              refine va_iald hx hb hK hP 1 0 rfl rfl (vp_in_nI (by omega) (by omega)) dX6_look_243 ?_
              refine lv_seti (v := fMt j_4) (congrArg fMt (nI_clamp (by omega))) ?_
              refine lv_bipush (v := 59) hx hb dX6_look_244 (by decide) ?_
              refine lv_icmp_ne (tgt := 253) hx hb dX6_look_246 (by decide) (fun c_56 => ?_) (fun c_56 => ?_)
              · refine lv_iconst (v := 4) hx hb dX6_look_253 (by decide) ?_
                refine va_put (D := G) (ci := 5) (v := .int 4) (ty := .int) (C := RX6) (T := TX6) (N := 35) hx hb hts iX_X6 tyX6 tyX6_ok nmX6 hown hK hP hD hS 0 rfl rfl 21 (by decide) (hts _ m_t871) (fun _ h9 => h9) rfl (by decide +kernel) rfl rfl (Nat.le_of_ble_eq_true rfl) dX6_look_254 (fun H locs => ?_)
                clear hP hD hS
                intro hP hD hS
                have hPD := pd_as [zzO qm 5 [v0, v1, v2, v3, v4, v5, v6, .ref qmt, .int (nI kZ), v9, .int (nI (T_nb tA)), .ref qmB, .int (nI (T_np tA)), .ref qmO, .ref qmK, .int iEn, .int iTk, .int (T_sd tA), v18, v19, .int (nI j_4), .int 4, .int (nI j_4), .long 0, .int iFa, v25, v26, .int iLv, .int iWs, v29, v30, v31, v32, v33, v34], zzI cy qmt 250 fMt] hP hD rfl
                clear hP hD
                obtain ⟨hP, hD⟩ := hPD
                refine lv_aload_n hx hb dX6_look_257 rfl (lv_at hl 0 rfl) ?_
                refine lv_dup hx hb dX6_look_258 rfl ?_
                refine va_get (D := G) (ci := 5) (v := .int (nI j_4)) (C := RX6) (T := TX6) (N := 35) hx hb hts iX_X6 hown hK hP 0 rfl rfl 20 (by decide) (hts _ m_t870) (fun _ h9 => h9) rfl dX6_look_259 ?_
                refine lv_iconst (v := 1) hx hb dX6_look_262 (by decide) ?_
                refine lv_iadd hx hb dX6_look_263 ?_
                refine lv_seti (v := nI (j_4 + 1)) (nI_1 _) ?_
                refine va_put (D := G) (ci := 5) (v := .int (nI (j_4 + 1))) (ty := .int) (C := RX6) (T := TX6) (N := 35) hx hb hts iX_X6 tyX6 tyX6_ok nmX6 hown hK hP hD hS 0 rfl rfl 20 (by decide) (hts _ m_t870) (fun _ h9 => h9) rfl (by decide +kernel) rfl rfl (Nat.le_of_ble_eq_true rfl) dX6_look_264 (fun H locs => ?_)
                clear hP hD hS
                intro hP hD hS
                have hPD := pd_as [zzO qm 5 [v0, v1, v2, v3, v4, v5, v6, .ref qmt, .int (nI kZ), v9, .int (nI (T_nb tA)), .ref qmB, .int (nI (T_np tA)), .ref qmO, .ref qmK, .int iEn, .int iTk, .int (T_sd tA), v18, v19, .int (nI (j_4 + 1)), .int 4, .int (nI j_4), .long 0, .int iFa, v25, v26, .int iLv, .int iWs, v29, v30, v31, v32, v33, v34], zzI cy qmt 250 fMt] hP hD rfl
                clear hP hD
                obtain ⟨hP, hD⟩ := hPD
                have hz_57r : lkF fMt kZ kAt = (j_4, 4, j_4 + 1, 0) := by rw [lk_4 hlt_9f hne_11 h_14 h_35 c_56]
                exact endV (u := [zzO qm 5 [v0, v1, v2, v3, v4, v5, v6, .ref qmt, .int (nI kZ), v9, .int (nI (T_nb tA)), .ref qmB, .int (nI (T_np tA)), .ref qmO, .ref qmK, .int iEn, .int iTk, .int (T_sd tA), v18, v19, .int (nI (j_4 + 1)), .int 4, .int (nI j_4), .long 0, .int iFa, v25, v26, .int iLv, .int iWs, v29, v30, v31, v32, v33, v34], zzI cy qmt 250 fMt]) hx hb hr hlocks (hP.sub [0, 1] rfl) (hD.sub [0, 1] (by decide +kernel) rfl) hS (by rw [hz_57r]) dX6_look_267
              · refine lv_iconst (v := 3) hx hb dX6_look_249 (by decide) ?_
                refine lv_goto (tgt := 254) hx hb dX6_look_250 (by decide) ?_
                refine va_put (D := G) (ci := 5) (v := .int 3) (ty := .int) (C := RX6) (T := TX6) (N := 35) hx hb hts iX_X6 tyX6 tyX6_ok nmX6 hown hK hP hD hS 0 rfl rfl 21 (by decide) (hts _ m_t871) (fun _ h9 => h9) rfl (by decide +kernel) rfl rfl (Nat.le_of_ble_eq_true rfl) dX6_look_254 (fun H locs => ?_)
                clear hP hD hS
                intro hP hD hS
                have hPD := pd_as [zzO qm 5 [v0, v1, v2, v3, v4, v5, v6, .ref qmt, .int (nI kZ), v9, .int (nI (T_nb tA)), .ref qmB, .int (nI (T_np tA)), .ref qmO, .ref qmK, .int iEn, .int iTk, .int (T_sd tA), v18, v19, .int (nI j_4), .int 3, .int (nI j_4), .long 0, .int iFa, v25, v26, .int iLv, .int iWs, v29, v30, v31, v32, v33, v34], zzI cy qmt 250 fMt] hP hD rfl
                clear hP hD
                obtain ⟨hP, hD⟩ := hPD
                refine lv_aload_n hx hb dX6_look_257 rfl (lv_at hl 0 rfl) ?_
                refine lv_dup hx hb dX6_look_258 rfl ?_
                refine va_get (D := G) (ci := 5) (v := .int (nI j_4)) (C := RX6) (T := TX6) (N := 35) hx hb hts iX_X6 hown hK hP 0 rfl rfl 20 (by decide) (hts _ m_t870) (fun _ h9 => h9) rfl dX6_look_259 ?_
                refine lv_iconst (v := 1) hx hb dX6_look_262 (by decide) ?_
                refine lv_iadd hx hb dX6_look_263 ?_
                refine lv_seti (v := nI (j_4 + 1)) (nI_1 _) ?_
                refine va_put (D := G) (ci := 5) (v := .int (nI (j_4 + 1))) (ty := .int) (C := RX6) (T := TX6) (N := 35) hx hb hts iX_X6 tyX6 tyX6_ok nmX6 hown hK hP hD hS 0 rfl rfl 20 (by decide) (hts _ m_t870) (fun _ h9 => h9) rfl (by decide +kernel) rfl rfl (Nat.le_of_ble_eq_true rfl) dX6_look_264 (fun H locs => ?_)
                clear hP hD hS
                intro hP hD hS
                have hPD := pd_as [zzO qm 5 [v0, v1, v2, v3, v4, v5, v6, .ref qmt, .int (nI kZ), v9, .int (nI (T_nb tA)), .ref qmB, .int (nI (T_np tA)), .ref qmO, .ref qmK, .int iEn, .int iTk, .int (T_sd tA), v18, v19, .int (nI (j_4 + 1)), .int 3, .int (nI j_4), .long 0, .int iFa, v25, v26, .int iLv, .int iWs, v29, v30, v31, v32, v33, v34], zzI cy qmt 250 fMt] hP hD rfl
                clear hP hD
                obtain ⟨hP, hD⟩ := hPD
                have hz_58r : lkF fMt kZ kAt = (j_4, 3, j_4 + 1, 0) := by rw [lk_3 hlt_9f hne_11 h_14 h_35 c_56]
                exact endV (u := [zzO qm 5 [v0, v1, v2, v3, v4, v5, v6, .ref qmt, .int (nI kZ), v9, .int (nI (T_nb tA)), .ref qmB, .int (nI (T_np tA)), .ref qmO, .ref qmK, .int iEn, .int iTk, .int (T_sd tA), v18, v19, .int (nI (j_4 + 1)), .int 3, .int (nI j_4), .long 0, .int iFa, v25, v26, .int iLv, .int iWs, v29, v30, v31, v32, v33, v34], zzI cy qmt 250 fMt]) hx hb hr hlocks (hP.sub [0, 1] rfl) (hD.sub [0, 1] (by decide +kernel) rfl) hS (by rw [hz_58r]) dX6_look_267
        · have hne_59 : j_4 = kZ := nI_inj (by omega) (by omega) c_10
          have hne_59r : lkF fMt kZ kAt = (j_4, 0, j_4, 0) := by rw [lkF, ← hlt_9f, if_pos hne_59]
          refine lv_aload_n hx hb dX6_look_62 rfl (lv_at hl 0 rfl) ?_
          refine lv_iconst (v := 0) hx hb dX6_look_63 (by decide) ?_
          refine va_put (D := G) (ci := 5) (v := .int 0) (ty := .int) (C := RX6) (T := TX6) (N := 35) hx hb hts iX_X6 tyX6 tyX6_ok nmX6 hown hK hP hD hS 0 rfl rfl 21 (by decide) (hts _ m_t871) (fun _ h9 => h9) rfl (by decide +kernel) rfl rfl (Nat.le_of_ble_eq_true rfl) dX6_look_64 (fun H locs => ?_)
          clear hP hD hS
          intro hP hD hS
          have hPD := pd_as [zzO qm 5 [v0, v1, v2, v3, v4, v5, v6, .ref qmt, .int (nI kZ), v9, .int (nI (T_nb tA)), .ref qmB, .int (nI (T_np tA)), .ref qmO, .ref qmK, .int iEn, .int iTk, .int (T_sd tA), v18, v19, .int (nI j_4), .int 0, .int (nI j_4), .long 0, .int iFa, v25, v26, .int iLv, .int iWs, v29, v30, v31, v32, v33, v34], zzI cy qmt 250 fMt] hP hD rfl
          clear hP hD
          obtain ⟨hP, hD⟩ := hPD
          refine lv_goto (tgt := 267) hx hb dX6_look_67 (by decide) ?_
          exact endV (u := [zzO qm 5 [v0, v1, v2, v3, v4, v5, v6, .ref qmt, .int (nI kZ), v9, .int (nI (T_nb tA)), .ref qmB, .int (nI (T_np tA)), .ref qmO, .ref qmK, .int iEn, .int iTk, .int (T_sd tA), v18, v19, .int (nI j_4), .int 0, .int (nI j_4), .long 0, .int iFa, v25, v26, .int iLv, .int iWs, v29, v30, v31, v32, v33, v34], zzI cy qmt 250 fMt]) hx hb hr hlocks (hP.sub [0, 1] rfl) (hD.sub [0, 1] (by decide +kernel) rfl) hS (by rw [hne_59r]) dX6_look_267
      · have hlt_60 : j_4 < kZ := lp_lt rfl rfl (by omega) (by omega) c_8
        refine lv_aload_n hx hb dX6_look_11 rfl (lv_at hl 0 rfl) ?_
        refine va_get (D := G) (ci := 5) (v := .ref qmt) (C := RX6) (T := TX6) (N := 35) hx hb hts iX_X6 hown hK hP 0 rfl rfl 7 (by decide) (hts _ m_t857) (fun _ h9 => h9) rfl dX6_look_12 ?_
        refine lv_aload_n hx hb dX6_look_15 rfl (lv_at hl 0 rfl) ?_
        refine va_get (D := G) (ci := 5) (v := .int (nI j_4)) (C := RX6) (T := TX6) (N := 35) hx hb hts iX_X6 hown hK hP 0 rfl rfl 20 (by decide) (hts _ m_t870) (fun _ h9 => h9) rfl dX6_look_16 ?_
        refine va_iald hx hb hK hP 1 0 rfl rfl (vp_in_nI (by omega) (by omega)) dX6_look_19 ?_
        refine lv_seti (v := fMt j_4) (congrArg fMt (nI_clamp (by omega))) ?_
        refine lv_bipush (v := 32) hx hb dX6_look_20 (by decide) ?_
        refine lv_icmp_ne (tgt := 38) hx hb dX6_look_22 (by decide) (fun c_61 => ?_) (fun c_61 => ?_)
        · have hlt_62f : j_4 = skF fMt (kZ - kAt) kAt := by rw [← hT_6, show kZ - j_4 = kZ - (j_4 + 1) + 1 by omega, sk_no c_61]
          refine lv_aload_n hx hb dX6_look_38 rfl (lv_at hl 0 rfl) ?_
          refine lv_aload_n hx hb dX6_look_39 rfl (lv_at hl 0 rfl) ?_
          refine va_get (D := G) (ci := 5) (v := .int (nI j_4)) (C := RX6) (T := TX6) (N := 35) hx hb hts iX_X6 hown hK hP 0 rfl rfl 20 (by decide) (hts _ m_t870) (fun _ h9 => h9) rfl dX6_look_40 ?_
          refine va_put (D := G) (ci := 5) (v := .int (nI j_4)) (ty := .int) (C := RX6) (T := TX6) (N := 35) hx hb hts iX_X6 tyX6 tyX6_ok nmX6 hown hK hP hD hS 0 rfl rfl 22 (by decide) (hts _ m_t872) (fun _ h9 => h9) rfl (by decide +kernel) rfl rfl (Nat.le_of_ble_eq_true rfl) dX6_look_43 (fun H locs => ?_)
          clear hP hD hS
          intro hP hD hS
          have hPD := pd_as [zzO qm 5 [v0, v1, v2, v3, v4, v5, v6, .ref qmt, .int (nI kZ), v9, .int (nI (T_nb tA)), .ref qmB, .int (nI (T_np tA)), .ref qmO, .ref qmK, .int iEn, .int iTk, .int (T_sd tA), v18, v19, .int (nI j_4), .int iTo, .int (nI j_4), .long JFi, .int iFa, v25, v26, .int iLv, .int iWs, v29, v30, v31, v32, v33, v34], zzI cy qmt 250 fMt] hP hD rfl
          clear hP hD
          obtain ⟨hP, hD⟩ := hPD
          refine lv_aload_n hx hb dX6_look_46 rfl (lv_at hl 0 rfl) ?_
          refine lv_lconst (v := 0) hx hb dX6_look_47 (by decide) ?_
          refine va_put (D := G) (ci := 5) (v := .long 0) (ty := .long) (C := RX6) (T := TX6) (N := 35) hx hb hts iX_X6 tyX6 tyX6_ok nmX6 hown hK hP hD hS 0 rfl rfl 23 (by decide) (hts _ m_t873) (fun _ h9 => h9) rfl (by decide +kernel) rfl rfl (Nat.le_of_ble_eq_true rfl) dX6_look_48 (fun H locs => ?_)
          clear hP hD hS
          intro hP hD hS
          have hPD := pd_as [zzO qm 5 [v0, v1, v2, v3, v4, v5, v6, .ref qmt, .int (nI kZ), v9, .int (nI (T_nb tA)), .ref qmB, .int (nI (T_np tA)), .ref qmO, .ref qmK, .int iEn, .int iTk, .int (T_sd tA), v18, v19, .int (nI j_4), .int iTo, .int (nI j_4), .long 0, .int iFa, v25, v26, .int iLv, .int iWs, v29, v30, v31, v32, v33, v34], zzI cy qmt 250 fMt] hP hD rfl
          clear hP hD
          obtain ⟨hP, hD⟩ := hPD
          refine lv_aload_n hx hb dX6_look_51 rfl (lv_at hl 0 rfl) ?_
          refine va_get (D := G) (ci := 5) (v := .int (nI j_4)) (C := RX6) (T := TX6) (N := 35) hx hb hts iX_X6 hown hK hP 0 rfl rfl 20 (by decide) (hts _ m_t870) (fun _ h9 => h9) rfl dX6_look_52 ?_
          refine lv_aload_n hx hb dX6_look_55 rfl (lv_at hl 0 rfl) ?_
          refine va_get (D := G) (ci := 5) (v := .int (nI kZ)) (C := RX6) (T := TX6) (N := 35) hx hb hts iX_X6 hown hK hP 0 rfl rfl 8 (by decide) (hts _ m_t858) (fun _ h9 => h9) rfl dX6_look_56 ?_
          refine lv_icmp_ne (tgt := 70) hx hb dX6_look_59 (by decide) (fun c_63 => ?_) (fun c_63 => ?_)
          · have hne_64 : j_4 < kZ := Nat.lt_of_le_of_ne (by omega) (fun q => c_63 (congrArg nI q))
            refine lv_aload_n hx hb dX6_look_70 rfl (lv_at hl 0 rfl) ?_
            refine va_get (D := G) (ci := 5) (v := .ref qmt) (C := RX6) (T := TX6) (N := 35) hx hb hts iX_X6 hown hK hP 0 rfl rfl 7 (by decide) (hts _ m_t857) (fun _ h9 => h9) rfl dX6_look_71 ?_
            refine lv_aload_n hx hb dX6_look_74 rfl (lv_at hl 0 rfl) ?_
            refine va_get (D := G) (ci := 5) (v := .int (nI j_4)) (C := RX6) (T := TX6) (N := 35) hx hb hts iX_X6 hown hK hP 0 rfl rfl 20 (by decide) (hts _ m_t870) (fun _ h9 => h9) rfl dX6_look_75 ?_
            refine va_iald hx hb hK hP 1 0 rfl rfl (vp_in_nI (by omega) (by omega)) dX6_look_78 ?_
            refine lv_seti (v := fMt j_4) (congrArg fMt (nI_clamp (by omega))) ?_
            refine kRi (rS (As := [.int (fMt j_4)]) (rest := []) ⟨hx, hb, hml, hown, hts⟩ (c_X6_isLetter l G cy (fMt j_4)) L_X6_157 (preRS hN hP [] rfl) rfl ⟨Nat.le_of_ble_eq_true rfl, Nat.le_of_ble_eq_true rfl⟩ hl.1 (Nat.le_of_ble_eq_true rfl) dX6_look_79 ⟨Nat.le_of_ble_eq_true rfl, Nat.le_of_ble_eq_true rfl⟩) (fun r_65 h_66 => ?_)
            rcases h_66 with ⟨rfl, h_67⟩ | ⟨rfl, h_67⟩
            · refine lv_if_eq (tgt := 129) hx hb dX6_look_82 (by decide) (fun h9 => absurd h9 (by decide)) (fun _ => ?_)
              refine lv_aload_n hx hb dX6_look_85 rfl (lv_at hl 0 rfl) ?_
              refine lv_iconst (v := 1) hx hb dX6_look_86 (by decide) ?_
              refine va_put (D := G) (ci := 5) (v := .int 1) (ty := .int) (C := RX6) (T := TX6) (N := 35) hx hb hts iX_X6 tyX6 tyX6_ok nmX6 hown hK hP hD hS 0 rfl rfl 21 (by decide) (hts _ m_t871) (fun _ h9 => h9) rfl (by decide +kernel) rfl rfl (Nat.le_of_ble_eq_true rfl) dX6_look_87 (fun H locs => ?_)
              clear hP hD hS
              intro hP hD hS
              have hPD := pd_as [zzO qm 5 [v0, v1, v2, v3, v4, v5, v6, .ref qmt, .int (nI kZ), v9, .int (nI (T_nb tA)), .ref qmB, .int (nI (T_np tA)), .ref qmO, .ref qmK, .int iEn, .int iTk, .int (T_sd tA), v18, v19, .int (nI j_4), .int 1, .int (nI j_4), .long 0, .int iFa, v25, v26, .int iLv, .int iWs, v29, v30, v31, v32, v33, v34], zzI cy qmt 250 fMt] hP hD rfl
              clear hP hD
              obtain ⟨hP, hD⟩ := hPD
              have lp_69 : ∀ (n_70 : Nat) (m_72 : Nat), 250 - m_72 < n_70 → j_4 ≤ m_72 ∧ m_72 ≤ kZ → wdF zlt fMt (kZ - m_72) m_72 = wdF zlt fMt (kZ - j_4) j_4 → ∀ (H : Heap) (locs : List Loc) (ls : Array Slot), va_P G CL [zzO qm 5 [v0, v1, v2, v3, v4, v5, v6, .ref qmt, .int (nI kZ), v9, .int (nI (T_nb tA)), .ref qmB, .int (nI (T_np tA)), .ref qmO, .ref qmK, .int iEn, .int iTk, .int (T_sd tA), v18, v19, .int (nI m_72), .int 1, .int (nI j_4), .long 0, .int iFa, v25, v26, .int iLv, .int iWs, v29, v30, v31, v32, v33, v34], zzI cy qmt 250 fMt] H → va_D A [zzO qm 5 [v0, v1, v2, v3, v4, v5, v6, .ref qmt, .int (nI kZ), v9, .int (nI (T_nb tA)), .ref qmB, .int (nI (T_np tA)), .ref qmO, .ref qmK, .int iEn, .int iTk, .int (T_sd tA), v18, v19, .int (nI m_72), .int 1, .int (nI j_4), .long 0, .int iFa, v25, v26, .int iLv, .int iWs, v29, v30, v31, v32, v33, v34], zzI cy qmt 250 fMt] → va_S A s.heap H locs → lv_has ls 1 [(0, .ref qm)] → W p l e (Rm 2 0 0) s m (List.toArray (α := Value) [.ref qm]) below meth c H locs 0 0 (MQ below ((Wv G (fun u => u = [zzO qm 5 [v0, v1, v2, v3, v4, v5, v6, .ref qmt, .int (nI kZ), v9, .int (nI (T_nb tA)), .ref qmB, .int (nI (T_np tA)), .ref qmO, .ref qmK, .int iEn, .int iTk, .int (T_sd tA), v18, v19, .int (nI (lkF fMt kZ kAt).2.2.1), .int ((lkF fMt kZ kAt).2.1), .int (nI (lkF fMt kZ kAt).1), .long ((lkF fMt kZ kAt).2.2.2), .int iFa, v25, v26, .int iLv, .int iWs, v29, v30, v31, v32, v33, v34], zzI cy qmt 250 fMt])) A) (List.toArray (α := Value) [.ref qm]) s 0 0 A) (F0 m 90 ls []) := by
                intro n_70
                induction n_70 with
                | zero => intro m_72 hm9; exact absurd hm9 (Nat.not_lt_zero _)
                | succ n_70 ih_71 =>
                  intro m_72 hm_75 hm_75 hU_74 H locs ls hP hD hS hl
                  refine lv_aload_n hx hb dX6_look_90 rfl (lv_at hl 0 rfl) ?_
                  refine va_get (D := G) (ci := 5) (v := .int (nI m_72)) (C := RX6) (T := TX6) (N := 35) hx hb hts iX_X6 hown hK hP 0 rfl rfl 20 (by decide) (hts _ m_t870) (fun _ h9 => h9) rfl dX6_look_91 ?_
                  refine lv_aload_n hx hb dX6_look_94 rfl (lv_at hl 0 rfl) ?_
                  refine va_get (D := G) (ci := 5) (v := .int (nI kZ)) (C := RX6) (T := TX6) (N := 35) hx hb hts iX_X6 hown hK hP 0 rfl rfl 8 (by decide) (hts _ m_t858) (fun _ h9 => h9) rfl dX6_look_95 ?_
                  refine lv_icmp_ge (tgt := 267) hx hb dX6_look_98 (by decide) (fun c_76 => ?_) (fun c_76 => ?_)
                  · have hlt_77 : m_72 = kZ := Nat.le_antisymm (by omega) (lp_ge rfl rfl (by omega) (by omega) c_76)
                    have hlt_77r : lkF fMt kZ kAt = (j_4, 1, m_72, 0) := by rw [lk_w hlt_62f hne_64 h_67, ← hU_74, show kZ - m_72 = 0 by omega]; rfl
                    exact endV (u := [zzO qm 5 [v0, v1, v2, v3, v4, v5, v6, .ref qmt, .int (nI kZ), v9, .int (nI (T_nb tA)), .ref qmB, .int (nI (T_np tA)), .ref qmO, .ref qmK, .int iEn, .int iTk, .int (T_sd tA), v18, v19, .int (nI m_72), .int 1, .int (nI j_4), .long 0, .int iFa, v25, v26, .int iLv, .int iWs, v29, v30, v31, v32, v33, v34], zzI cy qmt 250 fMt]) hx hb hr hlocks (hP.sub [0, 1] rfl) (hD.sub [0, 1] (by decide +kernel) rfl) hS (by rw [hlt_77r]) dX6_look_267
                  · have hlt_78 : m_72 < kZ := lp_lt rfl rfl (by omega) (by omega) c_76
                    refine lv_aload_n hx hb dX6_look_101 rfl (lv_at hl 0 rfl) ?_
                    refine va_get (D := G) (ci := 5) (v := .ref qmt) (C := RX6) (T := TX6) (N := 35) hx hb hts iX_X6 hown hK hP 0 rfl rfl 7 (by decide) (hts _ m_t857) (fun _ h9 => h9) rfl dX6_look_102 ?_
                    refine lv_aload_n hx hb dX6_look_105 rfl (lv_at hl 0 rfl) ?_
                    refine va_get (D := G) (ci := 5) (v := .int (nI m_72)) (C := RX6) (T := TX6) (N := 35) hx hb hts iX_X6 hown hK hP 0 rfl rfl 20 (by decide) (hts _ m_t870) (fun _ h9 => h9) rfl dX6_look_106 ?_
                    refine va_iald hx hb hK hP 1 0 rfl rfl (vp_in_nI (by omega) (by omega)) dX6_look_109 ?_
                    refine lv_seti (v := fMt m_72) (congrArg fMt (nI_clamp (by omega))) ?_
                    refine kRi (rS (As := [.int (fMt m_72)]) (rest := []) ⟨hx, hb, hml, hown, hts⟩ (c_X6_isLetter l G cy (fMt m_72)) L_X6_157 (preRS hN hP [] rfl) rfl ⟨Nat.le_of_ble_eq_true rfl, Nat.le_of_ble_eq_true rfl⟩ hl.1 (Nat.le_of_ble_eq_true rfl) dX6_look_110 ⟨Nat.le_of_ble_eq_true rfl, Nat.le_of_ble_eq_true rfl⟩) (fun r_79 h_80 => ?_)
                    rcases h_80 with ⟨rfl, h_81⟩ | ⟨rfl, h_81⟩
                    · refine lv_if_eq (tgt := 267) hx hb dX6_look_113 (by decide) (fun h9 => absurd h9 (by decide)) (fun _ => ?_)
                      refine lv_aload_n hx hb dX6_look_116 rfl (lv_at hl 0 rfl) ?_
                      refine lv_dup hx hb dX6_look_117 rfl ?_
                      refine va_get (D := G) (ci := 5) (v := .int (nI m_72)) (C := RX6) (T := TX6) (N := 35) hx hb hts iX_X6 hown hK hP 0 rfl rfl 20 (by decide) (hts _ m_t870) (fun _ h9 => h9) rfl dX6_look_118 ?_
                      refine lv_iconst (v := 1) hx hb dX6_look_121 (by decide) ?_
                      refine lv_iadd hx hb dX6_look_122 ?_
                      refine lv_seti (v := nI (m_72 + 1)) (nI_1 _) ?_
                      refine va_put (D := G) (ci := 5) (v := .int (nI (m_72 + 1))) (ty := .int) (C := RX6) (T := TX6) (N := 35) hx hb hts iX_X6 tyX6 tyX6_ok nmX6 hown hK hP hD hS 0 rfl rfl 20 (by decide) (hts _ m_t870) (fun _ h9 => h9) rfl (by decide +kernel) rfl rfl (Nat.le_of_ble_eq_true rfl) dX6_look_123 (fun H locs => ?_)
                      clear hP hD hS
                      intro hP hD hS
                      have hPD := pd_as [zzO qm 5 [v0, v1, v2, v3, v4, v5, v6, .ref qmt, .int (nI kZ), v9, .int (nI (T_nb tA)), .ref qmB, .int (nI (T_np tA)), .ref qmO, .ref qmK, .int iEn, .int iTk, .int (T_sd tA), v18, v19, .int (nI (m_72 + 1)), .int 1, .int (nI j_4), .long 0, .int iFa, v25, v26, .int iLv, .int iWs, v29, v30, v31, v32, v33, v34], zzI cy qmt 250 fMt] hP hD rfl
                      clear hP hD
                      obtain ⟨hP, hD⟩ := hPD
                      refine lv_goto (tgt := 90) hx hb dX6_look_126 (by decide) ?_
                      exact ih_71 (m_72 + 1) (by omega) (⟨by omega, by omega⟩) (by rw [← hU_74, show kZ - m_72 = kZ - (m_72 + 1) + 1 by omega, wd_go h_81]) _ _ _ hP hD hS (lv_sub hl [0] rfl)
                    · refine lv_if_eq (tgt := 267) hx hb dX6_look_113 (by decide) (fun _ => ?_) (fun h9 => absurd (by decide) h9)
                      have hz_84r : lkF fMt kZ kAt = (j_4, 1, m_72, 0) := by rw [lk_w hlt_62f hne_64 h_67, ← hU_74, show kZ - m_72 = kZ - (m_72 + 1) + 1 by omega, wd_no h_81]
                      exact endV (u := [zzO qm 5 [v0, v1, v2, v3, v4, v5, v6, .ref qmt, .int (nI kZ), v9, .int (nI (T_nb tA)), .ref qmB, .int (nI (T_np tA)), .ref qmO, .ref qmK, .int iEn, .int iTk, .int (T_sd tA), v18, v19, .int (nI m_72), .int 1, .int (nI j_4), .long 0, .int iFa, v25, v26, .int iLv, .int iWs, v29, v30, v31, v32, v33, v34], zzI cy qmt 250 fMt]) hx hb hr hlocks (hP.sub [0, 1] rfl) (hD.sub [0, 1] (by decide +kernel) rfl) hS (by rw [hz_84r]) dX6_look_267
              exact lp_69 ((250 - j_4) + 1) j_4 (Nat.lt_succ_self _) (⟨Nat.le_refl _, by omega⟩) rfl _ _ ls hP hD hS (lv_sub hl [0] rfl)
            · refine lv_if_eq (tgt := 129) hx hb dX6_look_82 (by decide) (fun _ => ?_) (fun h9 => absurd (by decide) h9)
              refine lv_aload_n hx hb dX6_look_129 rfl (lv_at hl 0 rfl) ?_
              refine va_get (D := G) (ci := 5) (v := .ref qmt) (C := RX6) (T := TX6) (N := 35) hx hb hts iX_X6 hown hK hP 0 rfl rfl 7 (by decide) (hts _ m_t857) (fun _ h9 => h9) rfl dX6_look_130 ?_
              refine lv_aload_n hx hb dX6_look_133 rfl (lv_at hl 0 rfl) ?_
              refine va_get (D := G) (ci := 5) (v := .int (nI j_4)) (C := RX6) (T := TX6) (N := 35) hx hb hts iX_X6 hown hK hP 0 rfl rfl 20 (by decide) (hts _ m_t870) (fun _ h9 => h9) rfl dX6_look_134 ?_
              refine va_iald hx hb hK hP 1 0 rfl rfl (vp_in_nI (by omega) (by omega)) dX6_look_137 ?_
              refine lv_seti (v := fMt j_4) (congrArg fMt (nI_clamp (by omega))) ?_
              refine kRi (rS (As := [.int (fMt j_4)]) (rest := []) ⟨hx, hb, hml, hown, hts⟩ (c_X6_isDigit l G cy (fMt j_4)) L_X6_160 (preRS hN hP [] rfl) rfl ⟨Nat.le_of_ble_eq_true rfl, Nat.le_of_ble_eq_true rfl⟩ hl.1 (Nat.le_of_ble_eq_true rfl) dX6_look_138 ⟨Nat.le_of_ble_eq_true rfl, Nat.le_of_ble_eq_true rfl⟩) (fun r_86 h_87 => ?_)
              rcases h_87 with ⟨rfl, h_88⟩ | ⟨rfl, h_88⟩
              · refine lv_if_eq (tgt := 234) hx hb dX6_look_141 (by decide) (fun h9 => absurd h9 (by decide)) (fun _ => ?_)
                refine lv_aload_n hx hb dX6_look_144 rfl (lv_at hl 0 rfl) ?_
                refine lv_iconst (v := 2) hx hb dX6_look_145 (by decide) ?_
                refine va_put (D := G) (ci := 5) (v := .int 2) (ty := .int) (C := RX6) (T := TX6) (N := 35) hx hb hts iX_X6 tyX6 tyX6_ok nmX6 hown hK hP hD hS 0 rfl rfl 21 (by decide) (hts _ m_t871) (fun _ h9 => h9) rfl (by decide +kernel) rfl rfl (Nat.le_of_ble_eq_true rfl) dX6_look_146 (fun H locs => ?_)
                clear hP hD hS
                intro hP hD hS
                have hPD := pd_as [zzO qm 5 [v0, v1, v2, v3, v4, v5, v6, .ref qmt, .int (nI kZ), v9, .int (nI (T_nb tA)), .ref qmB, .int (nI (T_np tA)), .ref qmO, .ref qmK, .int iEn, .int iTk, .int (T_sd tA), v18, v19, .int (nI j_4), .int 2, .int (nI j_4), .long 0, .int iFa, v25, v26, .int iLv, .int iWs, v29, v30, v31, v32, v33, v34], zzI cy qmt 250 fMt] hP hD rfl
                clear hP hD
                obtain ⟨hP, hD⟩ := hPD
                have lp_90 : ∀ (n_91 : Nat) (m_93 : Nat) (xF_94 : Int64), 250 - m_93 < n_91 → j_4 ≤ m_93 ∧ m_93 ≤ kZ → dgF fMt j_4 (kZ - m_93) m_93 xF_94 = dgF fMt j_4 (kZ - j_4) j_4 0 → ∀ (H : Heap) (locs : List Loc) (ls : Array Slot), va_P G CL [zzO qm 5 [v0, v1, v2, v3, v4, v5, v6, .ref qmt, .int (nI kZ), v9, .int (nI (T_nb tA)), .ref qmB, .int (nI (T_np tA)), .ref qmO, .ref qmK, .int iEn, .int iTk, .int (T_sd tA), v18, v19, .int (nI m_93), .int 2, .int (nI j_4), .long xF_94, .int iFa, v25, v26, .int iLv, .int iWs, v29, v30, v31, v32, v33, v34], zzI cy qmt 250 fMt] H → va_D A [zzO qm 5 [v0, v1, v2, v3, v4, v5, v6, .ref qmt, .int (nI kZ), v9, .int (nI (T_nb tA)), .ref qmB, .int (nI (T_np tA)), .ref qmO, .ref qmK, .int iEn, .int iTk, .int (T_sd tA), v18, v19, .int (nI m_93), .int 2, .int (nI j_4), .long xF_94, .int iFa, v25, v26, .int iLv, .int iWs, v29, v30, v31, v32, v33, v34], zzI cy qmt 250 fMt] → va_S A s.heap H locs → lv_has ls 1 [(0, .ref qm)] → W p l e (Rm 2 0 0) s m (List.toArray (α := Value) [.ref qm]) below meth c H locs 0 0 (MQ below ((Wv G (fun u => u = [zzO qm 5 [v0, v1, v2, v3, v4, v5, v6, .ref qmt, .int (nI kZ), v9, .int (nI (T_nb tA)), .ref qmB, .int (nI (T_np tA)), .ref qmO, .ref qmK, .int iEn, .int iTk, .int (T_sd tA), v18, v19, .int (nI (lkF fMt kZ kAt).2.2.1), .int ((lkF fMt kZ kAt).2.1), .int (nI (lkF fMt kZ kAt).1), .long ((lkF fMt kZ kAt).2.2.2), .int iFa, v25, v26, .int iLv, .int iWs, v29, v30, v31, v32, v33, v34], zzI cy qmt 250 fMt])) A) (List.toArray (α := Value) [.ref qm]) s 0 0 A) (F0 m 149 ls []) := by
                  intro n_91
                  induction n_91 with
                  | zero => intro m_93 xF_94 hm9; exact absurd hm9 (Nat.not_lt_zero _)
                  | succ n_91 ih_92 =>
                    intro m_93 xF_94 hm_97 hm_97 hU_96 H locs ls hP hD hS hl
                    refine lv_aload_n hx hb dX6_look_149 rfl (lv_at hl 0 rfl) ?_
                    refine va_get (D := G) (ci := 5) (v := .int (nI m_93)) (C := RX6) (T := TX6) (N := 35) hx hb hts iX_X6 hown hK hP 0 rfl rfl 20 (by decide) (hts _ m_t870) (fun _ h9 => h9) rfl dX6_look_150 ?_
                    refine lv_aload_n hx hb dX6_look_153 rfl (lv_at hl 0 rfl) ?_
                    refine va_get (D := G) (ci := 5) (v := .int (nI kZ)) (C := RX6) (T := TX6) (N := 35) hx hb hts iX_X6 hown hK hP 0 rfl rfl 8 (by decide) (hts _ m_t858) (fun _ h9 => h9) rfl dX6_look_154 ?_
                    refine lv_icmp_ge (tgt := 267) hx hb dX6_look_157 (by decide) (fun c_98 => ?_) (fun c_98 => ?_)
                    · have hlt_99 : m_93 = kZ := Nat.le_antisymm (by omega) (lp_ge rfl rfl (by omega) (by omega) c_98)
                      have hlt_99r : lkF fMt kZ kAt = (j_4, 2, m_93, xF_94) := by rw [lk_d hlt_62f hne_64 h_67 h_88, ← hU_96, show kZ - m_93 = 0 by omega]; rfl
                      exact endV (u := [zzO qm 5 [v0, v1, v2, v3, v4, v5, v6, .ref qmt, .int (nI kZ), v9, .int (nI (T_nb tA)), .ref qmB, .int (nI (T_np tA)), .ref qmO, .ref qmK, .int iEn, .int iTk, .int (T_sd tA), v18, v19, .int (nI m_93), .int 2, .int (nI j_4), .long xF_94, .int iFa, v25, v26, .int iLv, .int iWs, v29, v30, v31, v32, v33, v34], zzI cy qmt 250 fMt]) hx hb hr hlocks (hP.sub [0, 1] rfl) (hD.sub [0, 1] (by decide +kernel) rfl) hS (by rw [hlt_99r]) dX6_look_267
                    · have hlt_100 : m_93 < kZ := lp_lt rfl rfl (by omega) (by omega) c_98
                      refine lv_aload_n hx hb dX6_look_160 rfl (lv_at hl 0 rfl) ?_
                      refine va_get (D := G) (ci := 5) (v := .ref qmt) (C := RX6) (T := TX6) (N := 35) hx hb hts iX_X6 hown hK hP 0 rfl rfl 7 (by decide) (hts _ m_t857) (fun _ h9 => h9) rfl dX6_look_161 ?_
                      refine lv_aload_n hx hb dX6_look_164 rfl (lv_at hl 0 rfl) ?_
                      refine va_get (D := G) (ci := 5) (v := .int (nI m_93)) (C := RX6) (T := TX6) (N := 35) hx hb hts iX_X6 hown hK hP 0 rfl rfl 20 (by decide) (hts _ m_t870) (fun _ h9 => h9) rfl dX6_look_165 ?_
                      refine va_iald hx hb hK hP 1 0 rfl rfl (vp_in_nI (by omega) (by omega)) dX6_look_168 ?_
                      refine lv_seti (v := fMt m_93) (congrArg fMt (nI_clamp (by omega))) ?_
                      refine kRi (rS (As := [.int (fMt m_93)]) (rest := []) ⟨hx, hb, hml, hown, hts⟩ (c_X6_isDigit l G cy (fMt m_93)) L_X6_160 (preRS hN hP [] rfl) rfl ⟨Nat.le_of_ble_eq_true rfl, Nat.le_of_ble_eq_true rfl⟩ hl.1 (Nat.le_of_ble_eq_true rfl) dX6_look_169 ⟨Nat.le_of_ble_eq_true rfl, Nat.le_of_ble_eq_true rfl⟩) (fun r_101 h_102 => ?_)
                      rcases h_102 with ⟨rfl, h_103⟩ | ⟨rfl, h_103⟩
                      · refine lv_if_eq (tgt := 267) hx hb dX6_look_172 (by decide) (fun h9 => absurd h9 (by decide)) (fun _ => ?_)
                        refine lv_aload_n hx hb dX6_look_175 rfl (lv_at hl 0 rfl) ?_
                        refine lv_aload_n hx hb dX6_look_176 rfl (lv_at hl 0 rfl) ?_
                        refine va_get (D := G) (ci := 5) (v := .int (nI m_93)) (C := RX6) (T := TX6) (N := 35) hx hb hts iX_X6 hown hK hP 0 rfl rfl 20 (by decide) (hts _ m_t870) (fun _ h9 => h9) rfl dX6_look_177 ?_
                        refine lv_aload_n hx hb dX6_look_180 rfl (lv_at hl 0 rfl) ?_
                        refine va_get (D := G) (ci := 5) (v := .int (nI j_4)) (C := RX6) (T := TX6) (N := 35) hx hb hts iX_X6 hown hK hP 0 rfl rfl 22 (by decide) (hts _ m_t872) (fun _ h9 => h9) rfl dX6_look_181 ?_
                        refine lv_isub hx hb dX6_look_184 ?_
                        refine lv_iconst (v := 3) hx hb dX6_look_185 (by decide) ?_
                        refine lv_icmp_ge (tgt := 215) hx hb dX6_look_186 (by decide) (fun c_105 => ?_) (fun c_105 => ?_)
                        · refine lv_ldc2 hx hb hown (hts _ m_t1139) dX6_look_215 ?_
                          refine va_put (D := G) (ci := 5) (v := .long 100000) (ty := .long) (C := RX6) (T := TX6) (N := 35) hx hb hts iX_X6 tyX6 tyX6_ok nmX6 hown hK hP hD hS 0 rfl rfl 23 (by decide) (hts _ m_t873) (fun _ h9 => h9) rfl (by decide +kernel) rfl rfl (Nat.le_of_ble_eq_true rfl) dX6_look_218 (fun H locs => ?_)
                          clear hP hD hS
                          intro hP hD hS
                          have hPD := pd_as [zzO qm 5 [v0, v1, v2, v3, v4, v5, v6, .ref qmt, .int (nI kZ), v9, .int (nI (T_nb tA)), .ref qmB, .int (nI (T_np tA)), .ref qmO, .ref qmK, .int iEn, .int iTk, .int (T_sd tA), v18, v19, .int (nI m_93), .int 2, .int (nI j_4), .long 100000, .int iFa, v25, v26, .int iLv, .int iWs, v29, v30, v31, v32, v33, v34], zzI cy qmt 250 fMt] hP hD rfl
                          clear hP hD
                          obtain ⟨hP, hD⟩ := hPD
                          refine lv_aload_n hx hb dX6_look_221 rfl (lv_at hl 0 rfl) ?_
                          refine lv_dup hx hb dX6_look_222 rfl ?_
                          refine va_get (D := G) (ci := 5) (v := .int (nI m_93)) (C := RX6) (T := TX6) (N := 35) hx hb hts iX_X6 hown hK hP 0 rfl rfl 20 (by decide) (hts _ m_t870) (fun _ h9 => h9) rfl dX6_look_223 ?_
                          refine lv_iconst (v := 1) hx hb dX6_look_226 (by decide) ?_
                          refine lv_iadd hx hb dX6_look_227 ?_
                          refine lv_seti (v := nI (m_93 + 1)) (nI_1 _) ?_
                          refine va_put (D := G) (ci := 5) (v := .int (nI (m_93 + 1))) (ty := .int) (C := RX6) (T := TX6) (N := 35) hx hb hts iX_X6 tyX6 tyX6_ok nmX6 hown hK hP hD hS 0 rfl rfl 20 (by decide) (hts _ m_t870) (fun _ h9 => h9) rfl (by decide +kernel) rfl rfl (Nat.le_of_ble_eq_true rfl) dX6_look_228 (fun H locs => ?_)
                          clear hP hD hS
                          intro hP hD hS
                          have hPD := pd_as [zzO qm 5 [v0, v1, v2, v3, v4, v5, v6, .ref qmt, .int (nI kZ), v9, .int (nI (T_nb tA)), .ref qmB, .int (nI (T_np tA)), .ref qmO, .ref qmK, .int iEn, .int iTk, .int (T_sd tA), v18, v19, .int (nI (m_93 + 1)), .int 2, .int (nI j_4), .long 100000, .int iFa, v25, v26, .int iLv, .int iWs, v29, v30, v31, v32, v33, v34], zzI cy qmt 250 fMt] hP hD rfl
                          clear hP hD
                          obtain ⟨hP, hD⟩ := hPD
                          refine lv_goto (tgt := 149) hx hb dX6_look_231 (by decide) ?_
                          exact ih_92 (m_93 + 1) 100000 (by omega) (⟨by omega, by omega⟩) (by rw [← hU_96, show kZ - m_93 = kZ - (m_93 + 1) + 1 by omega, dg_go h_103 (dg_ge (by omega) (by omega) c_105)]) _ _ _ hP hD hS (lv_sub hl [0] rfl)
                        · refine lv_aload_n hx hb dX6_look_189 rfl (lv_at hl 0 rfl) ?_
                          refine va_get (D := G) (ci := 5) (v := .long xF_94) (C := RX6) (T := TX6) (N := 35) hx hb hts iX_X6 hown hK hP 0 rfl rfl 23 (by decide) (hts _ m_t873) (fun _ h9 => h9) rfl dX6_look_190 ?_
                          refine lv_ldc2 hx hb hown (hts _ m_t1103) dX6_look_193 ?_
                          refine lv_lmul hx hb dX6_look_196 ?_
                          refine lv_aload_n hx hb dX6_look_197 rfl (lv_at hl 0 rfl) ?_
                          refine va_get (D := G) (ci := 5) (v := .ref qmt) (C := RX6) (T := TX6) (N := 35) hx hb hts iX_X6 hown hK hP 0 rfl rfl 7 (by decide) (hts _ m_t857) (fun _ h9 => h9) rfl dX6_look_198 ?_
                          refine lv_aload_n hx hb dX6_look_201 rfl (lv_at hl 0 rfl) ?_
                          refine va_get (D := G) (ci := 5) (v := .int (nI m_93)) (C := RX6) (T := TX6) (N := 35) hx hb hts iX_X6 hown hK hP 0 rfl rfl 20 (by decide) (hts _ m_t870) (fun _ h9 => h9) rfl dX6_look_202 ?_
                          refine va_iald hx hb hK hP 1 0 rfl rfl (vp_in_nI (by omega) (by omega)) dX6_look_205 ?_
                          refine lv_seti (v := fMt m_93) (congrArg fMt (nI_clamp (by omega))) ?_
                          refine lv_i2l (v := (fMt m_93).toInt64) hx hb dX6_look_206 rfl ?_
                          refine lv_ladd hx hb dX6_look_207 ?_
                          refine lv_ldc2 hx hb hown (hts _ m_t1138) dX6_look_208 ?_
                          refine lv_lsub hx hb dX6_look_211 ?_
                          refine lv_goto (tgt := 218) hx hb dX6_look_212 (by decide) ?_
                          refine va_put (D := G) (ci := 5) (v := .long (((xF_94 * 10) + ((fMt m_93).toInt64)) - 48)) (ty := .long) (C := RX6) (T := TX6) (N := 35) hx hb hts iX_X6 tyX6 tyX6_ok nmX6 hown hK hP hD hS 0 rfl rfl 23 (by decide) (hts _ m_t873) (fun _ h9 => h9) rfl (by decide +kernel) rfl rfl (Nat.le_of_ble_eq_true rfl) dX6_look_218 (fun H locs => ?_)
                          clear hP hD hS
                          intro hP hD hS
                          have hPD := pd_as [zzO qm 5 [v0, v1, v2, v3, v4, v5, v6, .ref qmt, .int (nI kZ), v9, .int (nI (T_nb tA)), .ref qmB, .int (nI (T_np tA)), .ref qmO, .ref qmK, .int iEn, .int iTk, .int (T_sd tA), v18, v19, .int (nI m_93), .int 2, .int (nI j_4), .long (((xF_94 * 10) + ((fMt m_93).toInt64)) - 48), .int iFa, v25, v26, .int iLv, .int iWs, v29, v30, v31, v32, v33, v34], zzI cy qmt 250 fMt] hP hD rfl
                          clear hP hD
                          obtain ⟨hP, hD⟩ := hPD
                          refine lv_aload_n hx hb dX6_look_221 rfl (lv_at hl 0 rfl) ?_
                          refine lv_dup hx hb dX6_look_222 rfl ?_
                          refine va_get (D := G) (ci := 5) (v := .int (nI m_93)) (C := RX6) (T := TX6) (N := 35) hx hb hts iX_X6 hown hK hP 0 rfl rfl 20 (by decide) (hts _ m_t870) (fun _ h9 => h9) rfl dX6_look_223 ?_
                          refine lv_iconst (v := 1) hx hb dX6_look_226 (by decide) ?_
                          refine lv_iadd hx hb dX6_look_227 ?_
                          refine lv_seti (v := nI (m_93 + 1)) (nI_1 _) ?_
                          refine va_put (D := G) (ci := 5) (v := .int (nI (m_93 + 1))) (ty := .int) (C := RX6) (T := TX6) (N := 35) hx hb hts iX_X6 tyX6 tyX6_ok nmX6 hown hK hP hD hS 0 rfl rfl 20 (by decide) (hts _ m_t870) (fun _ h9 => h9) rfl (by decide +kernel) rfl rfl (Nat.le_of_ble_eq_true rfl) dX6_look_228 (fun H locs => ?_)
                          clear hP hD hS
                          intro hP hD hS
                          have hPD := pd_as [zzO qm 5 [v0, v1, v2, v3, v4, v5, v6, .ref qmt, .int (nI kZ), v9, .int (nI (T_nb tA)), .ref qmB, .int (nI (T_np tA)), .ref qmO, .ref qmK, .int iEn, .int iTk, .int (T_sd tA), v18, v19, .int (nI (m_93 + 1)), .int 2, .int (nI j_4), .long (((xF_94 * 10) + ((fMt m_93).toInt64)) - 48), .int iFa, v25, v26, .int iLv, .int iWs, v29, v30, v31, v32, v33, v34], zzI cy qmt 250 fMt] hP hD rfl
                          clear hP hD
                          obtain ⟨hP, hD⟩ := hPD
                          refine lv_goto (tgt := 149) hx hb dX6_look_231 (by decide) ?_
                          exact ih_92 (m_93 + 1) (((xF_94 * 10) + ((fMt m_93).toInt64)) - 48) (by omega) (⟨by omega, by omega⟩) (by rw [← hU_96, show kZ - m_93 = kZ - (m_93 + 1) + 1 by omega, dg_lt h_103 (dg_l3 (by omega) (by omega) c_105)]) _ _ _ hP hD hS (lv_sub hl [0] rfl)
                      · refine lv_if_eq (tgt := 267) hx hb dX6_look_172 (by decide) (fun _ => ?_) (fun h9 => absurd (by decide) h9)
                        have hz_107r : lkF fMt kZ kAt = (j_4, 2, m_93, xF_94) := by rw [lk_d hlt_62f hne_64 h_67 h_88, ← hU_96, show kZ - m_93 = kZ - (m_93 + 1) + 1 by omega, dg_no h_103]
                        exact endV (u := [zzO qm 5 [v0, v1, v2, v3, v4, v5, v6, .ref qmt, .int (nI kZ), v9, .int (nI (T_nb tA)), .ref qmB, .int (nI (T_np tA)), .ref qmO, .ref qmK, .int iEn, .int iTk, .int (T_sd tA), v18, v19, .int (nI m_93), .int 2, .int (nI j_4), .long xF_94, .int iFa, v25, v26, .int iLv, .int iWs, v29, v30, v31, v32, v33, v34], zzI cy qmt 250 fMt]) hx hb hr hlocks (hP.sub [0, 1] rfl) (hD.sub [0, 1] (by decide +kernel) rfl) hS (by rw [hz_107r]) dX6_look_267
                exact lp_90 ((250 - j_4) + 1) j_4 0 (Nat.lt_succ_self _) (⟨Nat.le_refl _, by omega⟩) rfl _ _ ls hP hD hS (lv_sub hl [0] rfl)
              · refine lv_if_eq (tgt := 234) hx hb dX6_look_141 (by decide) (fun _ => ?_) (fun h9 => absurd (by decide) h9)
                refine lv_aload_n hx hb dX6_look_234 rfl (lv_at hl 0 rfl) ?_
                refine lv_aload_n hx hb dX6_look_235 rfl (lv_at hl 0 rfl) ?_
                refine va_get (D := G) (ci := 5) (v := .ref qmt) (C := RX6) (T := TX6) (N := 35) hx hb hts iX_X6 hown hK hP 0 rfl rfl 7 (by decide) (hts _ m_t857) (fun _ h9 => h9) rfl dX6_look_236 ?_
                refine lv_aload_n hx hb dX6_look_239 rfl (lv_at hl 0 rfl) ?_
                refine va_get (D := G) (ci := 5) (v := .int (nI j_4)) (C := RX6) (T := TX6) (N := 35) hx hb hts iX_X6 hown hK hP 0 rfl rfl 20 (by decide) (hts _ m_t870) (fun _ h9 => h9) rfl dX6_look_240 ?_
                refine va_iald hx hb hK hP 1 0 rfl rfl (vp_in_nI (by omega) (by omega)) dX6_look_243 ?_
                refine lv_seti (v := fMt j_4) (congrArg fMt (nI_clamp (by omega))) ?_
                refine lv_bipush (v := 59) hx hb dX6_look_244 (by decide) ?_
                refine lv_icmp_ne (tgt := 253) hx hb dX6_look_246 (by decide) (fun c_109 => ?_) (fun c_109 => ?_)
                · refine lv_iconst (v := 4) hx hb dX6_look_253 (by decide) ?_
                  refine va_put (D := G) (ci := 5) (v := .int 4) (ty := .int) (C := RX6) (T := TX6) (N := 35) hx hb hts iX_X6 tyX6 tyX6_ok nmX6 hown hK hP hD hS 0 rfl rfl 21 (by decide) (hts _ m_t871) (fun _ h9 => h9) rfl (by decide +kernel) rfl rfl (Nat.le_of_ble_eq_true rfl) dX6_look_254 (fun H locs => ?_)
                  clear hP hD hS
                  intro hP hD hS
                  have hPD := pd_as [zzO qm 5 [v0, v1, v2, v3, v4, v5, v6, .ref qmt, .int (nI kZ), v9, .int (nI (T_nb tA)), .ref qmB, .int (nI (T_np tA)), .ref qmO, .ref qmK, .int iEn, .int iTk, .int (T_sd tA), v18, v19, .int (nI j_4), .int 4, .int (nI j_4), .long 0, .int iFa, v25, v26, .int iLv, .int iWs, v29, v30, v31, v32, v33, v34], zzI cy qmt 250 fMt] hP hD rfl
                  clear hP hD
                  obtain ⟨hP, hD⟩ := hPD
                  refine lv_aload_n hx hb dX6_look_257 rfl (lv_at hl 0 rfl) ?_
                  refine lv_dup hx hb dX6_look_258 rfl ?_
                  refine va_get (D := G) (ci := 5) (v := .int (nI j_4)) (C := RX6) (T := TX6) (N := 35) hx hb hts iX_X6 hown hK hP 0 rfl rfl 20 (by decide) (hts _ m_t870) (fun _ h9 => h9) rfl dX6_look_259 ?_
                  refine lv_iconst (v := 1) hx hb dX6_look_262 (by decide) ?_
                  refine lv_iadd hx hb dX6_look_263 ?_
                  refine lv_seti (v := nI (j_4 + 1)) (nI_1 _) ?_
                  refine va_put (D := G) (ci := 5) (v := .int (nI (j_4 + 1))) (ty := .int) (C := RX6) (T := TX6) (N := 35) hx hb hts iX_X6 tyX6 tyX6_ok nmX6 hown hK hP hD hS 0 rfl rfl 20 (by decide) (hts _ m_t870) (fun _ h9 => h9) rfl (by decide +kernel) rfl rfl (Nat.le_of_ble_eq_true rfl) dX6_look_264 (fun H locs => ?_)
                  clear hP hD hS
                  intro hP hD hS
                  have hPD := pd_as [zzO qm 5 [v0, v1, v2, v3, v4, v5, v6, .ref qmt, .int (nI kZ), v9, .int (nI (T_nb tA)), .ref qmB, .int (nI (T_np tA)), .ref qmO, .ref qmK, .int iEn, .int iTk, .int (T_sd tA), v18, v19, .int (nI (j_4 + 1)), .int 4, .int (nI j_4), .long 0, .int iFa, v25, v26, .int iLv, .int iWs, v29, v30, v31, v32, v33, v34], zzI cy qmt 250 fMt] hP hD rfl
                  clear hP hD
                  obtain ⟨hP, hD⟩ := hPD
                  have hz_110r : lkF fMt kZ kAt = (j_4, 4, j_4 + 1, 0) := by rw [lk_4 hlt_62f hne_64 h_67 h_88 c_109]
                  exact endV (u := [zzO qm 5 [v0, v1, v2, v3, v4, v5, v6, .ref qmt, .int (nI kZ), v9, .int (nI (T_nb tA)), .ref qmB, .int (nI (T_np tA)), .ref qmO, .ref qmK, .int iEn, .int iTk, .int (T_sd tA), v18, v19, .int (nI (j_4 + 1)), .int 4, .int (nI j_4), .long 0, .int iFa, v25, v26, .int iLv, .int iWs, v29, v30, v31, v32, v33, v34], zzI cy qmt 250 fMt]) hx hb hr hlocks (hP.sub [0, 1] rfl) (hD.sub [0, 1] (by decide +kernel) rfl) hS (by rw [hz_110r]) dX6_look_267
                · refine lv_iconst (v := 3) hx hb dX6_look_249 (by decide) ?_
                  refine lv_goto (tgt := 254) hx hb dX6_look_250 (by decide) ?_
                  refine va_put (D := G) (ci := 5) (v := .int 3) (ty := .int) (C := RX6) (T := TX6) (N := 35) hx hb hts iX_X6 tyX6 tyX6_ok nmX6 hown hK hP hD hS 0 rfl rfl 21 (by decide) (hts _ m_t871) (fun _ h9 => h9) rfl (by decide +kernel) rfl rfl (Nat.le_of_ble_eq_true rfl) dX6_look_254 (fun H locs => ?_)
                  clear hP hD hS
                  intro hP hD hS
                  have hPD := pd_as [zzO qm 5 [v0, v1, v2, v3, v4, v5, v6, .ref qmt, .int (nI kZ), v9, .int (nI (T_nb tA)), .ref qmB, .int (nI (T_np tA)), .ref qmO, .ref qmK, .int iEn, .int iTk, .int (T_sd tA), v18, v19, .int (nI j_4), .int 3, .int (nI j_4), .long 0, .int iFa, v25, v26, .int iLv, .int iWs, v29, v30, v31, v32, v33, v34], zzI cy qmt 250 fMt] hP hD rfl
                  clear hP hD
                  obtain ⟨hP, hD⟩ := hPD
                  refine lv_aload_n hx hb dX6_look_257 rfl (lv_at hl 0 rfl) ?_
                  refine lv_dup hx hb dX6_look_258 rfl ?_
                  refine va_get (D := G) (ci := 5) (v := .int (nI j_4)) (C := RX6) (T := TX6) (N := 35) hx hb hts iX_X6 hown hK hP 0 rfl rfl 20 (by decide) (hts _ m_t870) (fun _ h9 => h9) rfl dX6_look_259 ?_
                  refine lv_iconst (v := 1) hx hb dX6_look_262 (by decide) ?_
                  refine lv_iadd hx hb dX6_look_263 ?_
                  refine lv_seti (v := nI (j_4 + 1)) (nI_1 _) ?_
                  refine va_put (D := G) (ci := 5) (v := .int (nI (j_4 + 1))) (ty := .int) (C := RX6) (T := TX6) (N := 35) hx hb hts iX_X6 tyX6 tyX6_ok nmX6 hown hK hP hD hS 0 rfl rfl 20 (by decide) (hts _ m_t870) (fun _ h9 => h9) rfl (by decide +kernel) rfl rfl (Nat.le_of_ble_eq_true rfl) dX6_look_264 (fun H locs => ?_)
                  clear hP hD hS
                  intro hP hD hS
                  have hPD := pd_as [zzO qm 5 [v0, v1, v2, v3, v4, v5, v6, .ref qmt, .int (nI kZ), v9, .int (nI (T_nb tA)), .ref qmB, .int (nI (T_np tA)), .ref qmO, .ref qmK, .int iEn, .int iTk, .int (T_sd tA), v18, v19, .int (nI (j_4 + 1)), .int 3, .int (nI j_4), .long 0, .int iFa, v25, v26, .int iLv, .int iWs, v29, v30, v31, v32, v33, v34], zzI cy qmt 250 fMt] hP hD rfl
                  clear hP hD
                  obtain ⟨hP, hD⟩ := hPD
                  have hz_111r : lkF fMt kZ kAt = (j_4, 3, j_4 + 1, 0) := by rw [lk_3 hlt_62f hne_64 h_67 h_88 c_109]
                  exact endV (u := [zzO qm 5 [v0, v1, v2, v3, v4, v5, v6, .ref qmt, .int (nI kZ), v9, .int (nI (T_nb tA)), .ref qmB, .int (nI (T_np tA)), .ref qmO, .ref qmK, .int iEn, .int iTk, .int (T_sd tA), v18, v19, .int (nI (j_4 + 1)), .int 3, .int (nI j_4), .long 0, .int iFa, v25, v26, .int iLv, .int iWs, v29, v30, v31, v32, v33, v34], zzI cy qmt 250 fMt]) hx hb hr hlocks (hP.sub [0, 1] rfl) (hD.sub [0, 1] (by decide +kernel) rfl) hS (by rw [hz_111r]) dX6_look_267
          · have hne_112 : j_4 = kZ := nI_inj (by omega) (by omega) c_63
            have hne_112r : lkF fMt kZ kAt = (j_4, 0, j_4, 0) := by rw [lkF, ← hlt_62f, if_pos hne_112]
            refine lv_aload_n hx hb dX6_look_62 rfl (lv_at hl 0 rfl) ?_
            refine lv_iconst (v := 0) hx hb dX6_look_63 (by decide) ?_
            refine va_put (D := G) (ci := 5) (v := .int 0) (ty := .int) (C := RX6) (T := TX6) (N := 35) hx hb hts iX_X6 tyX6 tyX6_ok nmX6 hown hK hP hD hS 0 rfl rfl 21 (by decide) (hts _ m_t871) (fun _ h9 => h9) rfl (by decide +kernel) rfl rfl (Nat.le_of_ble_eq_true rfl) dX6_look_64 (fun H locs => ?_)
            clear hP hD hS
            intro hP hD hS
            have hPD := pd_as [zzO qm 5 [v0, v1, v2, v3, v4, v5, v6, .ref qmt, .int (nI kZ), v9, .int (nI (T_nb tA)), .ref qmB, .int (nI (T_np tA)), .ref qmO, .ref qmK, .int iEn, .int iTk, .int (T_sd tA), v18, v19, .int (nI j_4), .int 0, .int (nI j_4), .long 0, .int iFa, v25, v26, .int iLv, .int iWs, v29, v30, v31, v32, v33, v34], zzI cy qmt 250 fMt] hP hD rfl
            clear hP hD
            obtain ⟨hP, hD⟩ := hPD
            refine lv_goto (tgt := 267) hx hb dX6_look_67 (by decide) ?_
            exact endV (u := [zzO qm 5 [v0, v1, v2, v3, v4, v5, v6, .ref qmt, .int (nI kZ), v9, .int (nI (T_nb tA)), .ref qmB, .int (nI (T_np tA)), .ref qmO, .ref qmK, .int iEn, .int iTk, .int (T_sd tA), v18, v19, .int (nI j_4), .int 0, .int (nI j_4), .long 0, .int iFa, v25, v26, .int iLv, .int iWs, v29, v30, v31, v32, v33, v34], zzI cy qmt 250 fMt]) hx hb hr hlocks (hP.sub [0, 1] rfl) (hD.sub [0, 1] (by decide +kernel) rfl) hS (by rw [hne_112r]) dX6_look_267
        · refine lv_aload_n hx hb dX6_look_25 rfl (lv_at hl 0 rfl) ?_
          refine lv_dup hx hb dX6_look_26 rfl ?_
          refine va_get (D := G) (ci := 5) (v := .int (nI j_4)) (C := RX6) (T := TX6) (N := 35) hx hb hts iX_X6 hown hK hP 0 rfl rfl 20 (by decide) (hts _ m_t870) (fun _ h9 => h9) rfl dX6_look_27 ?_
          refine lv_iconst (v := 1) hx hb dX6_look_30 (by decide) ?_
          refine lv_iadd hx hb dX6_look_31 ?_
          refine lv_seti (v := nI (j_4 + 1)) (nI_1 _) ?_
          refine va_put (D := G) (ci := 5) (v := .int (nI (j_4 + 1))) (ty := .int) (C := RX6) (T := TX6) (N := 35) hx hb hts iX_X6 tyX6 tyX6_ok nmX6 hown hK hP hD hS 0 rfl rfl 20 (by decide) (hts _ m_t870) (fun _ h9 => h9) rfl (by decide +kernel) rfl rfl (Nat.le_of_ble_eq_true rfl) dX6_look_32 (fun H locs => ?_)
          clear hP hD hS
          intro hP hD hS
          have hPD := pd_as [zzO qm 5 [v0, v1, v2, v3, v4, v5, v6, .ref qmt, .int (nI kZ), v9, .int (nI (T_nb tA)), .ref qmB, .int (nI (T_np tA)), .ref qmO, .ref qmK, .int iEn, .int iTk, .int (T_sd tA), v18, v19, .int (nI (j_4 + 1)), .int iTo, .int iFr, .long JFi, .int iFa, v25, v26, .int iLv, .int iWs, v29, v30, v31, v32, v33, v34], zzI cy qmt 250 fMt] hP hD rfl
          clear hP hD
          obtain ⟨hP, hD⟩ := hPD
          refine lv_goto (tgt := 0) hx hb dX6_look_35 (by decide) ?_
          exact ih_3 (j_4 + 1) (by omega) (⟨by omega, by omega⟩) (by rw [← hT_6, show kZ - j_4 = kZ - (j_4 + 1) + 1 by omega, sk_go c_61]) _ _ _ hP hD hS (lv_sub hl [0] rfl)
  exact lp_1 ((250 - kAt) + 1) kAt (Nat.lt_succ_self _) (⟨Nat.le_refl _, hAt⟩) rfl _ _ ls hP hD hS (lv_sub hl [0] rfl)
set_option maxHeartbeats 4000000 in
set_option maxRecDepth 100000 in
theorem c_X6_wrong (l : Launch) (G : va_G) (cy : Nat → ClassId) (sz : Nat) (qm : Nat) (v0 : Value) (v1 : Value) (v2 : Value) (v3 : Value) (v4 : Value) (v5 : Value) (v6 : Value) (qmt : Nat) (kZ : Nat) (v9 : Value) (tA : TA) (qmB : Nat) (qmO : Nat) (qmK : Nat) (iEn : Int32) (iTk : Int32) (v18 : Value) (v19 : Value) (kAt : Nat) (iTo : Int32) (iFr : Int32) (JFi : Int64) (iFa : Int32) (v25 : Value) (v26 : Value) (iLv : Int32) (iWs : Int32) (v29 : Value) (v30 : Value) (v31 : Value) (v32 : Value) (v33 : Value) (v34 : Value)   : MW l yX6_wrong cX6_wrong 1 (some .boolean) 1 0 0 G cy [zzO qm 5 [v0, v1, v2, v3, v4, v5, v6, .ref qmt, .int (nI kZ), v9, .int (nI (T_nb tA)), .ref qmB, .int (nI (T_np tA)), .ref qmO, .ref qmK, .int iEn, .int iTk, .int (T_sd tA), v18, v19, .int (nI kAt), .int iTo, .int iFr, .long JFi, .int iFa, v25, v26, .int iLv, .int iWs, v29, v30, v31, v32, v33, v34]] sz [.ref qm] (Wi G (fun r u => u = [zzO qm 5 [v0, v1, v2, v3, v4, v5, v6, .ref qmt, .int (nI kZ), v9, .int (nI (T_nb tA)), .ref qmB, .int (nI (T_np tA)), .ref qmO, .ref qmK, .int iEn, .int iTk, .int (T_sd tA), v18, v19, .int (nI kAt), .int iTo, .int iFr, .long JFi, .int iFr, v25, v26, .int iLv, .int iWs, v29, v30, v31, v32, v33, v34]] ∧ ((r = 0)))) := by
  refine enW RX6 (by decide) rfl (Nat.le_of_ble_eq_true rfl) (fun p e s m below meth c ls A hx hb hml hown hts hr hlocks hP hN hl hin hD hA hS => ?_)
  have hin : meth.name = _ := hin
  have hK := hN.1
  replace hl : lv_has ls 1 [(0, .ref qm)] := hl
  refine lv_aload_n hx hb dX6_wrong_0 rfl (lv_at hl 0 rfl) ?_
  refine lv_aload_n hx hb dX6_wrong_1 rfl (lv_at hl 0 rfl) ?_
  refine va_get (D := G) (ci := 5) (v := .int iFr) (C := RX6) (T := TX6) (N := 35) hx hb hts iX_X6 hown hK hP 0 rfl rfl 22 (by decide) (hts _ m_t872) (fun _ h9 => h9) rfl dX6_wrong_2 ?_
  refine va_put (D := G) (ci := 5) (v := .int iFr) (ty := .int) (C := RX6) (T := TX6) (N := 35) hx hb hts iX_X6 tyX6 tyX6_ok nmX6 hown hK hP hD hS 0 rfl rfl 24 (by decide) (hts _ m_t874) (fun _ h9 => h9) rfl (by decide +kernel) rfl rfl (Nat.le_of_ble_eq_true rfl) dX6_wrong_5 (fun H locs => ?_)
  clear hP hD hS
  intro hP hD hS
  have hPD := pd_as [zzO qm 5 [v0, v1, v2, v3, v4, v5, v6, .ref qmt, .int (nI kZ), v9, .int (nI (T_nb tA)), .ref qmB, .int (nI (T_np tA)), .ref qmO, .ref qmK, .int iEn, .int iTk, .int (T_sd tA), v18, v19, .int (nI kAt), .int iTo, .int iFr, .long JFi, .int iFr, v25, v26, .int iLv, .int iWs, v29, v30, v31, v32, v33, v34]] hP hD rfl
  clear hP hD
  obtain ⟨hP, hD⟩ := hPD
  refine lv_iconst (v := 0) hx hb dX6_wrong_8 (by decide) ?_
  exact endW (u := [zzO qm 5 [v0, v1, v2, v3, v4, v5, v6, .ref qmt, .int (nI kZ), v9, .int (nI (T_nb tA)), .ref qmB, .int (nI (T_np tA)), .ref qmO, .ref qmK, .int iEn, .int iTk, .int (T_sd tA), v18, v19, .int (nI kAt), .int iTo, .int iFr, .long JFi, .int iFr, v25, v26, .int iLv, .int iWs, v29, v30, v31, v32, v33, v34]]) hx hb hr hlocks rfl (hP.sub [0] rfl) (hD.sub [0] (by decide +kernel) rfl) hS ⟨rfl, rfl⟩ dX6_wrong_9
