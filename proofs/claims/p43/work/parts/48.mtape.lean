theorem dX6_readAll_0 : decode cX6_readAll 0 = .ok (.aload_n 0, 1) := by decide +kernel
theorem dX6_readAll_1 : decode cX6_readAll 1 = .ok (.iconst 1, 1) := by decide +kernel
theorem dX6_readAll_2 : decode cX6_readAll 2 = .ok (.putfield 216, 3) := by decide +kernel
theorem dX6_readAll_5 : decode cX6_readAll 5 = .ok (.aload_n 0, 1) := by decide +kernel
theorem dX6_readAll_6 : decode cX6_readAll 6 = .ok (.iconst 0, 1) := by decide +kernel
theorem dX6_readAll_7 : decode cX6_readAll 7 = .ok (.putfield 144, 3) := by decide +kernel
theorem dX6_readAll_10 : decode cX6_readAll 10 = .ok (.aload_n 0, 1) := by decide +kernel
theorem dX6_readAll_11 : decode cX6_readAll 11 = .ok (.invokevirtual 183, 3) := by decide +kernel
theorem dX6_readAll_14 : decode cX6_readAll 14 = .ok (.aload_n 0, 1) := by decide +kernel
theorem dX6_readAll_15 : decode cX6_readAll 15 = .ok (.invokevirtual 219, 3) := by decide +kernel
theorem dX6_readAll_18 : decode cX6_readAll 18 = .ok (.ifCond .ne 5, 3) := by decide +kernel
theorem dX6_readAll_21 : decode cX6_readAll 21 = .ok (.iconst 0, 1) := by decide +kernel
theorem dX6_readAll_22 : decode cX6_readAll 22 = .ok (.ireturn, 1) := by decide +kernel
theorem dX6_readAll_23 : decode cX6_readAll 23 = .ok (.aload_n 0, 1) := by decide +kernel
theorem dX6_readAll_24 : decode cX6_readAll 24 = .ok (.getfield 154, 3) := by decide +kernel
theorem dX6_readAll_27 : decode cX6_readAll 27 = .ok (.ifCond .eq 42, 3) := by decide +kernel
theorem dX6_readAll_30 : decode cX6_readAll 30 = .ok (.aload_n 0, 1) := by decide +kernel
theorem dX6_readAll_31 : decode cX6_readAll 31 = .ok (.getfield 154, 3) := by decide +kernel
theorem dX6_readAll_34 : decode cX6_readAll 34 = .ok (.iconst 3, 1) := by decide +kernel
theorem dX6_readAll_35 : decode cX6_readAll 35 = .ok (.if_icmp .eq 8, 3) := by decide +kernel
theorem dX6_readAll_38 : decode cX6_readAll 38 = .ok (.aload_n 0, 1) := by decide +kernel
theorem dX6_readAll_39 : decode cX6_readAll 39 = .ok (.invokevirtual 179, 3) := by decide +kernel
theorem dX6_readAll_42 : decode cX6_readAll 42 = .ok (.ireturn, 1) := by decide +kernel
theorem dX6_readAll_43 : decode cX6_readAll 43 = .ok (.aload_n 0, 1) := by decide +kernel
theorem dX6_readAll_44 : decode cX6_readAll 44 = .ok (.invokevirtual 183, 3) := by decide +kernel
theorem dX6_readAll_47 : decode cX6_readAll 47 = .ok (.aload_n 0, 1) := by decide +kernel
theorem dX6_readAll_48 : decode cX6_readAll 48 = .ok (.invokevirtual 219, 3) := by decide +kernel
theorem dX6_readAll_51 : decode cX6_readAll 51 = .ok (.ifCond .ne 5, 3) := by decide +kernel
theorem dX6_readAll_54 : decode cX6_readAll 54 = .ok (.iconst 0, 1) := by decide +kernel
theorem dX6_readAll_55 : decode cX6_readAll 55 = .ok (.ireturn, 1) := by decide +kernel
theorem dX6_readAll_56 : decode cX6_readAll 56 = .ok (.aload_n 0, 1) := by decide +kernel
theorem dX6_readAll_57 : decode cX6_readAll 57 = .ok (.dup, 1) := by decide +kernel
theorem dX6_readAll_58 : decode cX6_readAll 58 = .ok (.getfield 216, 3) := by decide +kernel
theorem dX6_readAll_61 : decode cX6_readAll 61 = .ok (.iconst 1, 1) := by decide +kernel
theorem dX6_readAll_62 : decode cX6_readAll 62 = .ok (.iadd, 1) := by decide +kernel
theorem dX6_readAll_63 : decode cX6_readAll 63 = .ok (.putfield 216, 3) := by decide +kernel
theorem dX6_readAll_66 : decode cX6_readAll 66 = .ok (.goto (-43), 3) := by decide +kernel
theorem dX6_readAll_69 : decode cX6_readAll 69 = .ok (.iconst 1, 1) := by decide +kernel
theorem dX6_readAll_70 : decode cX6_readAll 70 = .ok (.ireturn, 1) := by decide +kernel
theorem dX6_statement_0 : decode cX6_statement 0 = .ok (.aload_n 0, 1) := by decide +kernel
theorem dX6_statement_1 : decode cX6_statement 1 = .ok (.ldc 198, 2) := by decide +kernel
theorem dX6_statement_3 : decode cX6_statement 3 = .ok (.invokevirtual 186, 3) := by decide +kernel
theorem dX6_statement_6 : decode cX6_statement 6 = .ok (.ifCond .eq 76, 3) := by decide +kernel
theorem dX6_statement_9 : decode cX6_statement 9 = .ok (.aload_n 0, 1) := by decide +kernel
theorem dX6_statement_10 : decode cX6_statement 10 = .ok (.getfield 71, 3) := by decide +kernel
theorem dX6_statement_13 : decode cX6_statement 13 = .ok (.bipush 8, 2) := by decide +kernel
theorem dX6_statement_15 : decode cX6_statement 15 = .ok (.if_icmp .ge 67, 3) := by decide +kernel
theorem dX6_statement_18 : decode cX6_statement 18 = .ok (.aload_n 0, 1) := by decide +kernel
theorem dX6_statement_19 : decode cX6_statement 19 = .ok (.iconst 0, 1) := by decide +kernel
theorem dX6_statement_20 : decode cX6_statement 20 = .ok (.invokevirtual 126, 3) := by decide +kernel
theorem dX6_statement_23 : decode cX6_statement 23 = .ok (.aload_n 0, 1) := by decide +kernel
theorem dX6_statement_24 : decode cX6_statement 24 = .ok (.ldc 198, 2) := by decide +kernel
theorem dX6_statement_26 : decode cX6_statement 26 = .ok (.aload_n 0, 1) := by decide +kernel
theorem dX6_statement_27 : decode cX6_statement 27 = .ok (.getfield 42, 3) := by decide +kernel
theorem dX6_statement_30 : decode cX6_statement 30 = .ok (.aload_n 0, 1) := by decide +kernel
theorem dX6_statement_31 : decode cX6_statement 31 = .ok (.getfield 71, 3) := by decide +kernel
theorem dX6_statement_34 : decode cX6_statement 34 = .ok (.aaload, 1) := by decide +kernel
theorem dX6_statement_35 : decode cX6_statement 35 = .ok (.iconst 0, 1) := by decide +kernel
theorem dX6_statement_36 : decode cX6_statement 36 = .ok (.iconst 1, 1) := by decide +kernel
theorem dX6_statement_37 : decode cX6_statement 37 = .ok (.bipush 99, 2) := by decide +kernel
theorem dX6_statement_39 : decode cX6_statement 39 = .ok (.invokevirtual 194, 3) := by decide +kernel
theorem dX6_statement_42 : decode cX6_statement 42 = .ok (.ifCond .eq 26, 3) := by decide +kernel
theorem dX6_statement_45 : decode cX6_statement 45 = .ok (.aload_n 0, 1) := by decide +kernel
theorem dX6_statement_46 : decode cX6_statement 46 = .ok (.ldc 199, 2) := by decide +kernel
theorem dX6_statement_48 : decode cX6_statement 48 = .ok (.aload_n 0, 1) := by decide +kernel
theorem dX6_statement_49 : decode cX6_statement 49 = .ok (.getfield 42, 3) := by decide +kernel
theorem dX6_statement_52 : decode cX6_statement 52 = .ok (.aload_n 0, 1) := by decide +kernel
theorem dX6_statement_53 : decode cX6_statement 53 = .ok (.getfield 71, 3) := by decide +kernel
theorem dX6_statement_56 : decode cX6_statement 56 = .ok (.aaload, 1) := by decide +kernel
theorem dX6_statement_57 : decode cX6_statement 57 = .ok (.iconst 2, 1) := by decide +kernel
theorem dX6_statement_58 : decode cX6_statement 58 = .ok (.iconst 0, 1) := by decide +kernel
theorem dX6_statement_59 : decode cX6_statement 59 = .ok (.sipush 1000, 3) := by decide +kernel
theorem dX6_statement_62 : decode cX6_statement 62 = .ok (.invokevirtual 201, 3) := by decide +kernel
theorem dX6_statement_65 : decode cX6_statement 65 = .ok (.ifCond .ne 5, 3) := by decide +kernel
theorem dX6_statement_68 : decode cX6_statement 68 = .ok (.iconst 0, 1) := by decide +kernel
theorem dX6_statement_69 : decode cX6_statement 69 = .ok (.ireturn, 1) := by decide +kernel
theorem dX6_statement_70 : decode cX6_statement 70 = .ok (.aload_n 0, 1) := by decide +kernel
theorem dX6_statement_71 : decode cX6_statement 71 = .ok (.dup, 1) := by decide +kernel
theorem dX6_statement_72 : decode cX6_statement 72 = .ok (.getfield 71, 3) := by decide +kernel
theorem dX6_statement_75 : decode cX6_statement 75 = .ok (.iconst 1, 1) := by decide +kernel
theorem dX6_statement_76 : decode cX6_statement 76 = .ok (.iadd, 1) := by decide +kernel
theorem dX6_statement_77 : decode cX6_statement 77 = .ok (.putfield 71, 3) := by decide +kernel
theorem dX6_statement_80 : decode cX6_statement 80 = .ok (.iconst 1, 1) := by decide +kernel
theorem dX6_statement_81 : decode cX6_statement 81 = .ok (.ireturn, 1) := by decide +kernel
theorem dX6_statement_82 : decode cX6_statement 82 = .ok (.aload_n 0, 1) := by decide +kernel
theorem dX6_statement_83 : decode cX6_statement 83 = .ok (.ldc 204, 2) := by decide +kernel
theorem dX6_statement_85 : decode cX6_statement 85 = .ok (.invokevirtual 186, 3) := by decide +kernel
theorem dX6_statement_88 : decode cX6_statement 88 = .ok (.ifCond .eq 98, 3) := by decide +kernel
theorem dX6_statement_91 : decode cX6_statement 91 = .ok (.aload_n 0, 1) := by decide +kernel
theorem dX6_statement_92 : decode cX6_statement 92 = .ok (.getfield 78, 3) := by decide +kernel
theorem dX6_statement_95 : decode cX6_statement 95 = .ok (.bipush 8, 2) := by decide +kernel
theorem dX6_statement_97 : decode cX6_statement 97 = .ok (.if_icmp .ge 89, 3) := by decide +kernel
theorem dX6_statement_100 : decode cX6_statement 100 = .ok (.aload_n 0, 1) := by decide +kernel
theorem dX6_statement_101 : decode cX6_statement 101 = .ok (.invokevirtual 134, 3) := by decide +kernel
theorem dX6_statement_104 : decode cX6_statement 104 = .ok (.aload_n 0, 1) := by decide +kernel
theorem dX6_statement_105 : decode cX6_statement 105 = .ok (.getfield 45, 3) := by decide +kernel
theorem dX6_statement_108 : decode cX6_statement 108 = .ok (.aload_n 0, 1) := by decide +kernel
theorem dX6_statement_109 : decode cX6_statement 109 = .ok (.getfield 78, 3) := by decide +kernel
theorem dX6_statement_112 : decode cX6_statement 112 = .ok (.aaload, 1) := by decide +kernel
theorem dX6_statement_113 : decode cX6_statement 113 = .ok (.astore_n 1, 1) := by decide +kernel
theorem dX6_statement_114 : decode cX6_statement 114 = .ok (.aload_n 0, 1) := by decide +kernel
theorem dX6_statement_115 : decode cX6_statement 115 = .ok (.ldc 204, 2) := by decide +kernel
theorem dX6_statement_117 : decode cX6_statement 117 = .ok (.aload_n 1, 1) := by decide +kernel
theorem dX6_statement_118 : decode cX6_statement 118 = .ok (.iconst 0, 1) := by decide +kernel
theorem dX6_statement_119 : decode cX6_statement 119 = .ok (.iconst 0, 1) := by decide +kernel
theorem dX6_statement_120 : decode cX6_statement 120 = .ok (.bipush 9, 2) := by decide +kernel
theorem dX6_statement_122 : decode cX6_statement 122 = .ok (.invokevirtual 194, 3) := by decide +kernel
theorem dX6_statement_125 : decode cX6_statement 125 = .ok (.ifCond .eq 17, 3) := by decide +kernel
theorem dX6_statement_128 : decode cX6_statement 128 = .ok (.aload_n 0, 1) := by decide +kernel
theorem dX6_statement_129 : decode cX6_statement 129 = .ok (.ldc 205, 2) := by decide +kernel
theorem dX6_statement_131 : decode cX6_statement 131 = .ok (.aload_n 1, 1) := by decide +kernel
theorem dX6_statement_132 : decode cX6_statement 132 = .ok (.iconst 1, 1) := by decide +kernel
theorem dX6_statement_133 : decode cX6_statement 133 = .ok (.iconst 0, 1) := by decide +kernel
theorem dX6_statement_134 : decode cX6_statement 134 = .ok (.bipush 10, 2) := by decide +kernel
theorem dX6_statement_136 : decode cX6_statement 136 = .ok (.invokevirtual 201, 3) := by decide +kernel
theorem dX6_statement_139 : decode cX6_statement 139 = .ok (.ifCond .ne 5, 3) := by decide +kernel
theorem dX6_statement_142 : decode cX6_statement 142 = .ok (.iconst 0, 1) := by decide +kernel
theorem dX6_statement_143 : decode cX6_statement 143 = .ok (.ireturn, 1) := by decide +kernel
theorem dX6_statement_144 : decode cX6_statement 144 = .ok (.aload_n 0, 1) := by decide +kernel
theorem dX6_statement_145 : decode cX6_statement 145 = .ok (.ldc 207, 2) := by decide +kernel
theorem dX6_statement_147 : decode cX6_statement 147 = .ok (.aload_n 1, 1) := by decide +kernel
theorem dX6_statement_148 : decode cX6_statement 148 = .ok (.iconst 2, 1) := by decide +kernel
theorem dX6_statement_149 : decode cX6_statement 149 = .ok (.iconst 0, 1) := by decide +kernel
theorem dX6_statement_150 : decode cX6_statement 150 = .ok (.bipush 10, 2) := by decide +kernel
theorem dX6_statement_152 : decode cX6_statement 152 = .ok (.invokevirtual 201, 3) := by decide +kernel
theorem dX6_statement_155 : decode cX6_statement 155 = .ok (.ifCond .eq 17, 3) := by decide +kernel
theorem dX6_statement_158 : decode cX6_statement 158 = .ok (.aload_n 0, 1) := by decide +kernel
theorem dX6_statement_159 : decode cX6_statement 159 = .ok (.ldc 209, 2) := by decide +kernel
theorem dX6_statement_161 : decode cX6_statement 161 = .ok (.aload_n 1, 1) := by decide +kernel
theorem dX6_statement_162 : decode cX6_statement 162 = .ok (.iconst 3, 1) := by decide +kernel
theorem dX6_statement_163 : decode cX6_statement 163 = .ok (.iconst 0, 1) := by decide +kernel
theorem dX6_statement_164 : decode cX6_statement 164 = .ok (.bipush 10, 2) := by decide +kernel
theorem dX6_statement_166 : decode cX6_statement 166 = .ok (.invokevirtual 201, 3) := by decide +kernel
theorem dX6_statement_169 : decode cX6_statement 169 = .ok (.ifCond .ne 5, 3) := by decide +kernel
theorem dX6_statement_172 : decode cX6_statement 172 = .ok (.iconst 0, 1) := by decide +kernel
theorem dX6_statement_173 : decode cX6_statement 173 = .ok (.ireturn, 1) := by decide +kernel
theorem dX6_statement_174 : decode cX6_statement 174 = .ok (.aload_n 0, 1) := by decide +kernel
theorem dX6_statement_175 : decode cX6_statement 175 = .ok (.dup, 1) := by decide +kernel
theorem dX6_statement_176 : decode cX6_statement 176 = .ok (.getfield 78, 3) := by decide +kernel
theorem dX6_statement_179 : decode cX6_statement 179 = .ok (.iconst 1, 1) := by decide +kernel
theorem dX6_statement_180 : decode cX6_statement 180 = .ok (.iadd, 1) := by decide +kernel
theorem dX6_statement_181 : decode cX6_statement 181 = .ok (.putfield 78, 3) := by decide +kernel
theorem dX6_statement_184 : decode cX6_statement 184 = .ok (.iconst 1, 1) := by decide +kernel
theorem dX6_statement_185 : decode cX6_statement 185 = .ok (.ireturn, 1) := by decide +kernel
theorem dX6_statement_186 : decode cX6_statement 186 = .ok (.aload_n 0, 1) := by decide +kernel
theorem dX6_statement_187 : decode cX6_statement 187 = .ok (.ldc 210, 2) := by decide +kernel
theorem dX6_statement_189 : decode cX6_statement 189 = .ok (.invokevirtual 186, 3) := by decide +kernel
theorem dX6_statement_192 : decode cX6_statement 192 = .ok (.ifCond .eq 73, 3) := by decide +kernel
theorem dX6_statement_195 : decode cX6_statement 195 = .ok (.aload_n 0, 1) := by decide +kernel
theorem dX6_statement_196 : decode cX6_statement 196 = .ok (.ldc 210, 2) := by decide +kernel
theorem dX6_statement_198 : decode cX6_statement 198 = .ok (.aload_n 0, 1) := by decide +kernel
theorem dX6_statement_199 : decode cX6_statement 199 = .ok (.getfield 55, 3) := by decide +kernel
theorem dX6_statement_202 : decode cX6_statement 202 = .ok (.iconst 0, 1) := by decide +kernel
theorem dX6_statement_203 : decode cX6_statement 203 = .ok (.iconst 0, 1) := by decide +kernel
theorem dX6_statement_204 : decode cX6_statement 204 = .ok (.aload_n 0, 1) := by decide +kernel
theorem dX6_statement_205 : decode cX6_statement 205 = .ok (.getfield 71, 3) := by decide +kernel
theorem dX6_statement_208 : decode cX6_statement 208 = .ok (.iconst 1, 1) := by decide +kernel
theorem dX6_statement_209 : decode cX6_statement 209 = .ok (.isub, 1) := by decide +kernel
theorem dX6_statement_210 : decode cX6_statement 210 = .ok (.invokevirtual 194, 3) := by decide +kernel
theorem dX6_statement_213 : decode cX6_statement 213 = .ok (.ifCond .eq 24, 3) := by decide +kernel
theorem dX6_statement_216 : decode cX6_statement 216 = .ok (.aload_n 0, 1) := by decide +kernel
theorem dX6_statement_217 : decode cX6_statement 217 = .ok (.aload_n 0, 1) := by decide +kernel
theorem dX6_statement_218 : decode cX6_statement 218 = .ok (.getfield 55, 3) := by decide +kernel
theorem dX6_statement_221 : decode cX6_statement 221 = .ok (.iconst 1, 1) := by decide +kernel
theorem dX6_statement_222 : decode cX6_statement 222 = .ok (.iconst 0, 1) := by decide +kernel
theorem dX6_statement_223 : decode cX6_statement 223 = .ok (.aload_n 0, 1) := by decide +kernel
theorem dX6_statement_224 : decode cX6_statement 224 = .ok (.getfield 55, 3) := by decide +kernel
theorem dX6_statement_227 : decode cX6_statement 227 = .ok (.iconst 0, 1) := by decide +kernel
theorem dX6_statement_228 : decode cX6_statement 228 = .ok (.iaload, 1) := by decide +kernel
theorem dX6_statement_229 : decode cX6_statement 229 = .ok (.iconst 1, 1) := by decide +kernel
theorem dX6_statement_230 : decode cX6_statement 230 = .ok (.isub, 1) := by decide +kernel
theorem dX6_statement_231 : decode cX6_statement 231 = .ok (.invokevirtual 190, 3) := by decide +kernel
theorem dX6_statement_234 : decode cX6_statement 234 = .ok (.ifCond .ne 5, 3) := by decide +kernel
theorem dX6_statement_237 : decode cX6_statement 237 = .ok (.iconst 0, 1) := by decide +kernel
theorem dX6_statement_238 : decode cX6_statement 238 = .ok (.ireturn, 1) := by decide +kernel
theorem dX6_statement_239 : decode cX6_statement 239 = .ok (.aload_n 0, 1) := by decide +kernel
theorem dX6_statement_240 : decode cX6_statement 240 = .ok (.getfield 42, 3) := by decide +kernel
theorem dX6_statement_243 : decode cX6_statement 243 = .ok (.aload_n 0, 1) := by decide +kernel
theorem dX6_statement_244 : decode cX6_statement 244 = .ok (.getfield 55, 3) := by decide +kernel
theorem dX6_statement_247 : decode cX6_statement 247 = .ok (.iconst 0, 1) := by decide +kernel
theorem dX6_statement_248 : decode cX6_statement 248 = .ok (.iaload, 1) := by decide +kernel
theorem dX6_statement_249 : decode cX6_statement 249 = .ok (.aaload, 1) := by decide +kernel
theorem dX6_statement_250 : decode cX6_statement 250 = .ok (.iconst 1, 1) := by decide +kernel
theorem dX6_statement_251 : decode cX6_statement 251 = .ok (.dup2, 1) := by decide +kernel
theorem dX6_statement_252 : decode cX6_statement 252 = .ok (.iaload, 1) := by decide +kernel
theorem dX6_statement_253 : decode cX6_statement 253 = .ok (.iconst 1, 1) := by decide +kernel
theorem dX6_statement_254 : decode cX6_statement 254 = .ok (.aload_n 0, 1) := by decide +kernel
theorem dX6_statement_255 : decode cX6_statement 255 = .ok (.getfield 55, 3) := by decide +kernel
theorem dX6_statement_258 : decode cX6_statement 258 = .ok (.iconst 1, 1) := by decide +kernel
theorem dX6_statement_259 : decode cX6_statement 259 = .ok (.iaload, 1) := by decide +kernel
theorem dX6_statement_260 : decode cX6_statement 260 = .ok (.ishl, 1) := by decide +kernel
theorem dX6_statement_261 : decode cX6_statement 261 = .ok (.ior, 1) := by decide +kernel
theorem dX6_statement_262 : decode cX6_statement 262 = .ok (.iastore, 1) := by decide +kernel
theorem dX6_statement_263 : decode cX6_statement 263 = .ok (.iconst 1, 1) := by decide +kernel
theorem dX6_statement_264 : decode cX6_statement 264 = .ok (.ireturn, 1) := by decide +kernel
theorem dX6_statement_265 : decode cX6_statement 265 = .ok (.aload_n 0, 1) := by decide +kernel
theorem dX6_statement_266 : decode cX6_statement 266 = .ok (.ldc 212, 2) := by decide +kernel
theorem dX6_statement_268 : decode cX6_statement 268 = .ok (.invokevirtual 186, 3) := by decide +kernel
theorem dX6_statement_271 : decode cX6_statement 271 = .ok (.ifCond .eq 87, 3) := by decide +kernel
theorem dX6_statement_274 : decode cX6_statement 274 = .ok (.aload_n 0, 1) := by decide +kernel
theorem dX6_statement_275 : decode cX6_statement 275 = .ok (.ldc 212, 2) := by decide +kernel
theorem dX6_statement_277 : decode cX6_statement 277 = .ok (.aload_n 0, 1) := by decide +kernel
theorem dX6_statement_278 : decode cX6_statement 278 = .ok (.getfield 55, 3) := by decide +kernel
theorem dX6_statement_281 : decode cX6_statement 281 = .ok (.iconst 0, 1) := by decide +kernel
theorem dX6_statement_282 : decode cX6_statement 282 = .ok (.iconst 0, 1) := by decide +kernel
theorem dX6_statement_283 : decode cX6_statement 283 = .ok (.aload_n 0, 1) := by decide +kernel
theorem dX6_statement_284 : decode cX6_statement 284 = .ok (.getfield 78, 3) := by decide +kernel
theorem dX6_statement_287 : decode cX6_statement 287 = .ok (.iconst 1, 1) := by decide +kernel
theorem dX6_statement_288 : decode cX6_statement 288 = .ok (.isub, 1) := by decide +kernel
theorem dX6_statement_289 : decode cX6_statement 289 = .ok (.invokevirtual 194, 3) := by decide +kernel
theorem dX6_statement_292 : decode cX6_statement 292 = .ok (.ifCond .eq 38, 3) := by decide +kernel
theorem dX6_statement_295 : decode cX6_statement 295 = .ok (.aload_n 0, 1) := by decide +kernel
theorem dX6_statement_296 : decode cX6_statement 296 = .ok (.aload_n 0, 1) := by decide +kernel
theorem dX6_statement_297 : decode cX6_statement 297 = .ok (.getfield 55, 3) := by decide +kernel
theorem dX6_statement_300 : decode cX6_statement 300 = .ok (.iconst 1, 1) := by decide +kernel
theorem dX6_statement_301 : decode cX6_statement 301 = .ok (.iconst 0, 1) := by decide +kernel
theorem dX6_statement_302 : decode cX6_statement 302 = .ok (.aload_n 0, 1) := by decide +kernel
theorem dX6_statement_303 : decode cX6_statement 303 = .ok (.getfield 71, 3) := by decide +kernel
theorem dX6_statement_306 : decode cX6_statement 306 = .ok (.iconst 1, 1) := by decide +kernel
theorem dX6_statement_307 : decode cX6_statement 307 = .ok (.isub, 1) := by decide +kernel
theorem dX6_statement_308 : decode cX6_statement 308 = .ok (.invokevirtual 190, 3) := by decide +kernel
theorem dX6_statement_311 : decode cX6_statement 311 = .ok (.ifCond .eq 19, 3) := by decide +kernel
theorem dX6_statement_314 : decode cX6_statement 314 = .ok (.aload_n 0, 1) := by decide +kernel
theorem dX6_statement_315 : decode cX6_statement 315 = .ok (.aload_n 0, 1) := by decide +kernel
theorem dX6_statement_316 : decode cX6_statement 316 = .ok (.getfield 55, 3) := by decide +kernel
theorem dX6_statement_319 : decode cX6_statement 319 = .ok (.iconst 2, 1) := by decide +kernel
theorem dX6_statement_320 : decode cX6_statement 320 = .ok (.iconst 0, 1) := by decide +kernel
theorem dX6_statement_321 : decode cX6_statement 321 = .ok (.sipush 1000, 3) := by decide +kernel
theorem dX6_statement_324 : decode cX6_statement 324 = .ok (.invokevirtual 190, 3) := by decide +kernel
theorem dX6_statement_327 : decode cX6_statement 327 = .ok (.ifCond .ne 5, 3) := by decide +kernel
theorem dX6_statement_330 : decode cX6_statement 330 = .ok (.iconst 0, 1) := by decide +kernel
theorem dX6_statement_331 : decode cX6_statement 331 = .ok (.ireturn, 1) := by decide +kernel
theorem dX6_statement_332 : decode cX6_statement 332 = .ok (.aload_n 0, 1) := by decide +kernel
theorem dX6_statement_333 : decode cX6_statement 333 = .ok (.getfield 48, 3) := by decide +kernel
theorem dX6_statement_336 : decode cX6_statement 336 = .ok (.aload_n 0, 1) := by decide +kernel
theorem dX6_statement_337 : decode cX6_statement 337 = .ok (.getfield 55, 3) := by decide +kernel
theorem dX6_statement_340 : decode cX6_statement 340 = .ok (.iconst 0, 1) := by decide +kernel
theorem dX6_statement_341 : decode cX6_statement 341 = .ok (.iaload, 1) := by decide +kernel
theorem dX6_statement_342 : decode cX6_statement 342 = .ok (.aaload, 1) := by decide +kernel
theorem dX6_statement_343 : decode cX6_statement 343 = .ok (.aload_n 0, 1) := by decide +kernel
theorem dX6_statement_344 : decode cX6_statement 344 = .ok (.getfield 55, 3) := by decide +kernel
theorem dX6_statement_347 : decode cX6_statement 347 = .ok (.iconst 1, 1) := by decide +kernel
theorem dX6_statement_348 : decode cX6_statement 348 = .ok (.iaload, 1) := by decide +kernel
theorem dX6_statement_349 : decode cX6_statement 349 = .ok (.aload_n 0, 1) := by decide +kernel
theorem dX6_statement_350 : decode cX6_statement 350 = .ok (.getfield 55, 3) := by decide +kernel
theorem dX6_statement_353 : decode cX6_statement 353 = .ok (.iconst 2, 1) := by decide +kernel
theorem dX6_statement_354 : decode cX6_statement 354 = .ok (.iaload, 1) := by decide +kernel
theorem dX6_statement_355 : decode cX6_statement 355 = .ok (.iastore, 1) := by decide +kernel
theorem dX6_statement_356 : decode cX6_statement 356 = .ok (.iconst 1, 1) := by decide +kernel
theorem dX6_statement_357 : decode cX6_statement 357 = .ok (.ireturn, 1) := by decide +kernel
theorem dX6_statement_358 : decode cX6_statement 358 = .ok (.aload_n 0, 1) := by decide +kernel
theorem dX6_statement_359 : decode cX6_statement 359 = .ok (.ldc 214, 2) := by decide +kernel
theorem dX6_statement_361 : decode cX6_statement 361 = .ok (.aload_n 0, 1) := by decide +kernel
theorem dX6_statement_362 : decode cX6_statement 362 = .ok (.getfield 55, 3) := by decide +kernel
theorem dX6_statement_365 : decode cX6_statement 365 = .ok (.iconst 0, 1) := by decide +kernel
theorem dX6_statement_366 : decode cX6_statement 366 = .ok (.iconst 0, 1) := by decide +kernel
theorem dX6_statement_367 : decode cX6_statement 367 = .ok (.aload_n 0, 1) := by decide +kernel
theorem dX6_statement_368 : decode cX6_statement 368 = .ok (.getfield 71, 3) := by decide +kernel
theorem dX6_statement_371 : decode cX6_statement 371 = .ok (.iconst 1, 1) := by decide +kernel
theorem dX6_statement_372 : decode cX6_statement 372 = .ok (.isub, 1) := by decide +kernel
theorem dX6_statement_373 : decode cX6_statement 373 = .ok (.invokevirtual 194, 3) := by decide +kernel
theorem dX6_statement_376 : decode cX6_statement 376 = .ok (.ifCond .ne 5, 3) := by decide +kernel
theorem dX6_statement_379 : decode cX6_statement 379 = .ok (.iconst 0, 1) := by decide +kernel
theorem dX6_statement_380 : decode cX6_statement 380 = .ok (.ireturn, 1) := by decide +kernel
theorem dX6_statement_381 : decode cX6_statement 381 = .ok (.aload_n 0, 1) := by decide +kernel
theorem dX6_statement_382 : decode cX6_statement 382 = .ok (.getfield 42, 3) := by decide +kernel
theorem dX6_statement_385 : decode cX6_statement 385 = .ok (.aload_n 0, 1) := by decide +kernel
theorem dX6_statement_386 : decode cX6_statement 386 = .ok (.getfield 55, 3) := by decide +kernel
theorem dX6_statement_389 : decode cX6_statement 389 = .ok (.iconst 0, 1) := by decide +kernel
theorem dX6_statement_390 : decode cX6_statement 390 = .ok (.iaload, 1) := by decide +kernel
theorem dX6_statement_391 : decode cX6_statement 391 = .ok (.aaload, 1) := by decide +kernel
theorem dX6_statement_392 : decode cX6_statement 392 = .ok (.iconst 3, 1) := by decide +kernel
theorem dX6_statement_393 : decode cX6_statement 393 = .ok (.iconst 1, 1) := by decide +kernel
theorem dX6_statement_394 : decode cX6_statement 394 = .ok (.iastore, 1) := by decide +kernel
theorem dX6_statement_395 : decode cX6_statement 395 = .ok (.iconst 1, 1) := by decide +kernel
theorem dX6_statement_396 : decode cX6_statement 396 = .ok (.ireturn, 1) := by decide +kernel
