theorem dX6_copy_0 : decode cX6_copy 0 = .ok (.iload_n 1, 1) := g_27 bX6_copy rfl
theorem dX6_copy_1 : decode cX6_copy 1 = .ok (.i2l, 1) := g_133 bX6_copy rfl
theorem dX6_copy_2 : decode cX6_copy 2 = .ok (.lconst 0, 1) := g_9 bX6_copy rfl
theorem dX6_copy_3 : decode cX6_copy 3 = .ok (.ldc2_w 85, 3) := g_20 bX6_copy rfl
theorem dX6_copy_6 : decode cX6_copy 6 = .ok (.invokestatic 74, 3) := g_184 bX6_copy rfl
theorem dX6_copy_9 : decode cX6_copy 9 = .ok (.ifCond .eq 15, 3) := g_153 15 bX6_copy rfl rfl
theorem dX6_copy_12 : decode cX6_copy 12 = .ok (.iload_n 2, 1) := g_28 bX6_copy rfl
theorem dX6_copy_13 : decode cX6_copy 13 = .ok (.i2l, 1) := g_133 bX6_copy rfl
theorem dX6_copy_14 : decode cX6_copy 14 = .ok (.lconst 0, 1) := g_9 bX6_copy rfl
theorem dX6_copy_15 : decode cX6_copy 15 = .ok (.ldc2_w 85, 3) := g_20 bX6_copy rfl
theorem dX6_copy_18 : decode cX6_copy 18 = .ok (.invokestatic 74, 3) := g_184 bX6_copy rfl
theorem dX6_copy_21 : decode cX6_copy 21 = .ok (.ifCond .ne 10, 3) := g_154 10 bX6_copy rfl rfl
theorem dX6_copy_24 : decode cX6_copy 24 = .ok (.aload_n 0, 1) := g_42 bX6_copy rfl
theorem dX6_copy_25 : decode cX6_copy 25 = .ok (.bipush (-2), 2) := g_16 254 bX6_copy rfl rfl
theorem dX6_copy_27 : decode cX6_copy 27 = .ok (.invokevirtual 91, 3) := g_182 bX6_copy rfl
theorem dX6_copy_30 : decode cX6_copy 30 = .ok (.ireturn, 1) := g_172 bX6_copy rfl
theorem dX6_copy_31 : decode cX6_copy 31 = .ok (.aload_n 0, 1) := g_42 bX6_copy rfl
theorem dX6_copy_32 : decode cX6_copy 32 = .ok (.getfield 7, 3) := g_180 bX6_copy rfl
theorem dX6_copy_35 : decode cX6_copy 35 = .ok (.iload_n 1, 1) := g_27 bX6_copy rfl
theorem dX6_copy_36 : decode cX6_copy 36 = .ok (.iaload, 1) := g_46 bX6_copy rfl
theorem dX6_copy_37 : decode cX6_copy 37 = .ok (.iconst 2, 1) := g_5 bX6_copy rfl
theorem dX6_copy_38 : decode cX6_copy 38 = .ok (.if_icmp .eq 48, 3) := g_159 48 bX6_copy rfl rfl
theorem dX6_copy_41 : decode cX6_copy 41 = .ok (.aload_n 0, 1) := g_42 bX6_copy rfl
theorem dX6_copy_42 : decode cX6_copy 42 = .ok (.getfield 7, 3) := g_180 bX6_copy rfl
theorem dX6_copy_45 : decode cX6_copy 45 = .ok (.iload_n 2, 1) := g_28 bX6_copy rfl
theorem dX6_copy_46 : decode cX6_copy 46 = .ok (.iaload, 1) := g_46 bX6_copy rfl
theorem dX6_copy_47 : decode cX6_copy 47 = .ok (.iconst 2, 1) := g_5 bX6_copy rfl
theorem dX6_copy_48 : decode cX6_copy 48 = .ok (.if_icmp .eq 38, 3) := g_159 38 bX6_copy rfl rfl
theorem dX6_copy_51 : decode cX6_copy 51 = .ok (.aload_n 0, 1) := g_42 bX6_copy rfl
theorem dX6_copy_52 : decode cX6_copy 52 = .ok (.getfield 7, 3) := g_180 bX6_copy rfl
theorem dX6_copy_55 : decode cX6_copy 55 = .ok (.iload_n 1, 1) := g_27 bX6_copy rfl
theorem dX6_copy_56 : decode cX6_copy 56 = .ok (.iaload, 1) := g_46 bX6_copy rfl
theorem dX6_copy_57 : decode cX6_copy 57 = .ok (.iconst 1, 1) := g_4 bX6_copy rfl
theorem dX6_copy_58 : decode cX6_copy 58 = .ok (.if_icmp .ne 35, 3) := g_160 35 bX6_copy rfl rfl
theorem dX6_copy_61 : decode cX6_copy 61 = .ok (.aload_n 0, 1) := g_42 bX6_copy rfl
theorem dX6_copy_62 : decode cX6_copy 62 = .ok (.getfield 7, 3) := g_180 bX6_copy rfl
theorem dX6_copy_65 : decode cX6_copy 65 = .ok (.iload_n 2, 1) := g_28 bX6_copy rfl
theorem dX6_copy_66 : decode cX6_copy 66 = .ok (.iaload, 1) := g_46 bX6_copy rfl
theorem dX6_copy_67 : decode cX6_copy 67 = .ok (.iconst 1, 1) := g_4 bX6_copy rfl
theorem dX6_copy_68 : decode cX6_copy 68 = .ok (.if_icmp .ne 25, 3) := g_160 25 bX6_copy rfl rfl
theorem dX6_copy_71 : decode cX6_copy 71 = .ok (.aload_n 0, 1) := g_42 bX6_copy rfl
theorem dX6_copy_72 : decode cX6_copy 72 = .ok (.getfield 13, 3) := g_180 bX6_copy rfl
theorem dX6_copy_75 : decode cX6_copy 75 = .ok (.iload_n 1, 1) := g_27 bX6_copy rfl
theorem dX6_copy_76 : decode cX6_copy 76 = .ok (.iaload, 1) := g_46 bX6_copy rfl
theorem dX6_copy_77 : decode cX6_copy 77 = .ok (.aload_n 0, 1) := g_42 bX6_copy rfl
theorem dX6_copy_78 : decode cX6_copy 78 = .ok (.getfield 13, 3) := g_180 bX6_copy rfl
theorem dX6_copy_81 : decode cX6_copy 81 = .ok (.iload_n 2, 1) := g_28 bX6_copy rfl
theorem dX6_copy_82 : decode cX6_copy 82 = .ok (.iaload, 1) := g_46 bX6_copy rfl
theorem dX6_copy_83 : decode cX6_copy 83 = .ok (.if_icmp .eq 10, 3) := g_159 10 bX6_copy rfl rfl
theorem dX6_copy_86 : decode cX6_copy 86 = .ok (.aload_n 0, 1) := g_42 bX6_copy rfl
theorem dX6_copy_87 : decode cX6_copy 87 = .ok (.bipush (-3), 2) := g_16 253 bX6_copy rfl rfl
theorem dX6_copy_89 : decode cX6_copy 89 = .ok (.invokevirtual 91, 3) := g_182 bX6_copy rfl
theorem dX6_copy_92 : decode cX6_copy 92 = .ok (.ireturn, 1) := g_172 bX6_copy rfl
theorem dX6_copy_93 : decode cX6_copy 93 = .ok (.aload_n 0, 1) := g_42 bX6_copy rfl
theorem dX6_copy_94 : decode cX6_copy 94 = .ok (.getfield 7, 3) := g_180 bX6_copy rfl
theorem dX6_copy_97 : decode cX6_copy 97 = .ok (.iload_n 1, 1) := g_27 bX6_copy rfl
theorem dX6_copy_98 : decode cX6_copy 98 = .ok (.iaload, 1) := g_46 bX6_copy rfl
theorem dX6_copy_99 : decode cX6_copy 99 = .ok (.ifCond .eq 12, 3) := g_153 12 bX6_copy rfl rfl
theorem dX6_copy_102 : decode cX6_copy 102 = .ok (.aload_n 0, 1) := g_42 bX6_copy rfl
theorem dX6_copy_103 : decode cX6_copy 103 = .ok (.getfield 7, 3) := g_180 bX6_copy rfl
theorem dX6_copy_106 : decode cX6_copy 106 = .ok (.iload_n 2, 1) := g_28 bX6_copy rfl
theorem dX6_copy_107 : decode cX6_copy 107 = .ok (.iaload, 1) := g_46 bX6_copy rfl
theorem dX6_copy_108 : decode cX6_copy 108 = .ok (.ifCond .ne 10, 3) := g_154 10 bX6_copy rfl rfl
theorem dX6_copy_111 : decode cX6_copy 111 = .ok (.aload_n 0, 1) := g_42 bX6_copy rfl
theorem dX6_copy_112 : decode cX6_copy 112 = .ok (.bipush (-4), 2) := g_16 252 bX6_copy rfl rfl
theorem dX6_copy_114 : decode cX6_copy 114 = .ok (.invokevirtual 91, 3) := g_182 bX6_copy rfl
theorem dX6_copy_117 : decode cX6_copy 117 = .ok (.ireturn, 1) := g_172 bX6_copy rfl
theorem dX6_copy_118 : decode cX6_copy 118 = .ok (.iload 5, 2) := g_21 bX6_copy rfl
theorem dX6_copy_120 : decode cX6_copy 120 = .ok (.ifCond .lt 61, 3) := g_155 61 bX6_copy rfl rfl
theorem dX6_copy_123 : decode cX6_copy 123 = .ok (.iload_n 3, 1) := g_29 bX6_copy rfl
theorem dX6_copy_124 : decode cX6_copy 124 = .ok (.ifCond .lt 57, 3) := g_155 57 bX6_copy rfl rfl
theorem dX6_copy_127 : decode cX6_copy 127 = .ok (.iload 4, 2) := g_21 bX6_copy rfl
theorem dX6_copy_129 : decode cX6_copy 129 = .ok (.ifCond .lt 52, 3) := g_155 52 bX6_copy rfl rfl
theorem dX6_copy_132 : decode cX6_copy 132 = .ok (.iload 5, 2) := g_21 bX6_copy rfl
theorem dX6_copy_134 : decode cX6_copy 134 = .ok (.aload_n 0, 1) := g_42 bX6_copy rfl
theorem dX6_copy_135 : decode cX6_copy 135 = .ok (.getfield 16, 3) := g_180 bX6_copy rfl
theorem dX6_copy_138 : decode cX6_copy 138 = .ok (.iload_n 1, 1) := g_27 bX6_copy rfl
theorem dX6_copy_139 : decode cX6_copy 139 = .ok (.iaload, 1) := g_46 bX6_copy rfl
theorem dX6_copy_140 : decode cX6_copy 140 = .ok (.if_icmp .gt 41, 3) := g_163 41 bX6_copy rfl rfl
theorem dX6_copy_143 : decode cX6_copy 143 = .ok (.iload 5, 2) := g_21 bX6_copy rfl
theorem dX6_copy_145 : decode cX6_copy 145 = .ok (.aload_n 0, 1) := g_42 bX6_copy rfl
theorem dX6_copy_146 : decode cX6_copy 146 = .ok (.getfield 16, 3) := g_180 bX6_copy rfl
theorem dX6_copy_149 : decode cX6_copy 149 = .ok (.iload_n 2, 1) := g_28 bX6_copy rfl
theorem dX6_copy_150 : decode cX6_copy 150 = .ok (.iaload, 1) := g_46 bX6_copy rfl
theorem dX6_copy_151 : decode cX6_copy 151 = .ok (.if_icmp .gt 30, 3) := g_163 30 bX6_copy rfl rfl
theorem dX6_copy_154 : decode cX6_copy 154 = .ok (.iload_n 3, 1) := g_29 bX6_copy rfl
theorem dX6_copy_155 : decode cX6_copy 155 = .ok (.aload_n 0, 1) := g_42 bX6_copy rfl
theorem dX6_copy_156 : decode cX6_copy 156 = .ok (.getfield 16, 3) := g_180 bX6_copy rfl
theorem dX6_copy_159 : decode cX6_copy 159 = .ok (.iload_n 1, 1) := g_27 bX6_copy rfl
theorem dX6_copy_160 : decode cX6_copy 160 = .ok (.iaload, 1) := g_46 bX6_copy rfl
theorem dX6_copy_161 : decode cX6_copy 161 = .ok (.iload 5, 2) := g_21 bX6_copy rfl
theorem dX6_copy_163 : decode cX6_copy 163 = .ok (.isub, 1) := g_100 bX6_copy rfl
theorem dX6_copy_164 : decode cX6_copy 164 = .ok (.if_icmp .gt 17, 3) := g_163 17 bX6_copy rfl rfl
theorem dX6_copy_167 : decode cX6_copy 167 = .ok (.iload 4, 2) := g_21 bX6_copy rfl
theorem dX6_copy_169 : decode cX6_copy 169 = .ok (.aload_n 0, 1) := g_42 bX6_copy rfl
theorem dX6_copy_170 : decode cX6_copy 170 = .ok (.getfield 16, 3) := g_180 bX6_copy rfl
theorem dX6_copy_173 : decode cX6_copy 173 = .ok (.iload_n 2, 1) := g_28 bX6_copy rfl
theorem dX6_copy_174 : decode cX6_copy 174 = .ok (.iaload, 1) := g_46 bX6_copy rfl
theorem dX6_copy_175 : decode cX6_copy 175 = .ok (.iload 5, 2) := g_21 bX6_copy rfl
theorem dX6_copy_177 : decode cX6_copy 177 = .ok (.isub, 1) := g_100 bX6_copy rfl
theorem dX6_copy_178 : decode cX6_copy 178 = .ok (.if_icmp .le 10, 3) := g_164 10 bX6_copy rfl rfl
theorem dX6_copy_181 : decode cX6_copy 181 = .ok (.aload_n 0, 1) := g_42 bX6_copy rfl
theorem dX6_copy_182 : decode cX6_copy 182 = .ok (.bipush (-2), 2) := g_16 254 bX6_copy rfl rfl
theorem dX6_copy_184 : decode cX6_copy 184 = .ok (.invokevirtual 91, 3) := g_182 bX6_copy rfl
theorem dX6_copy_187 : decode cX6_copy 187 = .ok (.ireturn, 1) := g_172 bX6_copy rfl
theorem dX6_copy_188 : decode cX6_copy 188 = .ok (.iconst 0, 1) := g_3 bX6_copy rfl
theorem dX6_copy_189 : decode cX6_copy 189 = .ok (.istore 6, 2) := g_54 bX6_copy rfl
theorem dX6_copy_191 : decode cX6_copy 191 = .ok (.iload 6, 2) := g_21 bX6_copy rfl
theorem dX6_copy_193 : decode cX6_copy 193 = .ok (.iload 5, 2) := g_21 bX6_copy rfl
theorem dX6_copy_195 : decode cX6_copy 195 = .ok (.if_icmp .ge 27, 3) := g_162 27 bX6_copy rfl rfl
theorem dX6_copy_198 : decode cX6_copy 198 = .ok (.aload_n 0, 1) := g_42 bX6_copy rfl
theorem dX6_copy_199 : decode cX6_copy 199 = .ok (.getfield 24, 3) := g_180 bX6_copy rfl
theorem dX6_copy_202 : decode cX6_copy 202 = .ok (.iload 6, 2) := g_21 bX6_copy rfl
theorem dX6_copy_204 : decode cX6_copy 204 = .ok (.aload_n 0, 1) := g_42 bX6_copy rfl
theorem dX6_copy_205 : decode cX6_copy 205 = .ok (.getfield 21, 3) := g_180 bX6_copy rfl
theorem dX6_copy_208 : decode cX6_copy 208 = .ok (.iload_n 1, 1) := g_27 bX6_copy rfl
theorem dX6_copy_209 : decode cX6_copy 209 = .ok (.aaload, 1) := g_50 bX6_copy rfl
theorem dX6_copy_210 : decode cX6_copy 210 = .ok (.iload_n 3, 1) := g_29 bX6_copy rfl
theorem dX6_copy_211 : decode cX6_copy 211 = .ok (.iload 6, 2) := g_21 bX6_copy rfl
theorem dX6_copy_213 : decode cX6_copy 213 = .ok (.iadd, 1) := g_96 bX6_copy rfl
theorem dX6_copy_214 : decode cX6_copy 214 = .ok (.laload, 1) := g_47 bX6_copy rfl
theorem dX6_copy_215 : decode cX6_copy 215 = .ok (.lastore, 1) := g_80 bX6_copy rfl
theorem dX6_copy_216 : decode cX6_copy 216 = .ok (.iinc 6 1, 3) := g_132 1 bX6_copy rfl rfl
theorem dX6_copy_219 : decode cX6_copy 219 = .ok (.goto (-28), 3) := g_167 65508 bX6_copy rfl rfl
theorem dX6_copy_222 : decode cX6_copy 222 = .ok (.iconst 0, 1) := g_3 bX6_copy rfl
theorem dX6_copy_223 : decode cX6_copy 223 = .ok (.istore 6, 2) := g_54 bX6_copy rfl
theorem dX6_copy_225 : decode cX6_copy 225 = .ok (.iload 6, 2) := g_21 bX6_copy rfl
theorem dX6_copy_227 : decode cX6_copy 227 = .ok (.iload 5, 2) := g_21 bX6_copy rfl
theorem dX6_copy_229 : decode cX6_copy 229 = .ok (.if_icmp .ge 28, 3) := g_162 28 bX6_copy rfl rfl
theorem dX6_copy_232 : decode cX6_copy 232 = .ok (.aload_n 0, 1) := g_42 bX6_copy rfl
theorem dX6_copy_233 : decode cX6_copy 233 = .ok (.getfield 21, 3) := g_180 bX6_copy rfl
theorem dX6_copy_236 : decode cX6_copy 236 = .ok (.iload_n 2, 1) := g_28 bX6_copy rfl
theorem dX6_copy_237 : decode cX6_copy 237 = .ok (.aaload, 1) := g_50 bX6_copy rfl
theorem dX6_copy_238 : decode cX6_copy 238 = .ok (.iload 4, 2) := g_21 bX6_copy rfl
theorem dX6_copy_240 : decode cX6_copy 240 = .ok (.iload 6, 2) := g_21 bX6_copy rfl
theorem dX6_copy_242 : decode cX6_copy 242 = .ok (.iadd, 1) := g_96 bX6_copy rfl
theorem dX6_copy_243 : decode cX6_copy 243 = .ok (.aload_n 0, 1) := g_42 bX6_copy rfl
theorem dX6_copy_244 : decode cX6_copy 244 = .ok (.getfield 24, 3) := g_180 bX6_copy rfl
theorem dX6_copy_247 : decode cX6_copy 247 = .ok (.iload 6, 2) := g_21 bX6_copy rfl
theorem dX6_copy_249 : decode cX6_copy 249 = .ok (.laload, 1) := g_47 bX6_copy rfl
theorem dX6_copy_250 : decode cX6_copy 250 = .ok (.lastore, 1) := g_80 bX6_copy rfl
theorem dX6_copy_251 : decode cX6_copy 251 = .ok (.iinc 6 1, 3) := g_132 1 bX6_copy rfl rfl
theorem dX6_copy_254 : decode cX6_copy 254 = .ok (.goto (-29), 3) := g_167 65507 bX6_copy rfl rfl
theorem dX6_copy_257 : decode cX6_copy 257 = .ok (.iload 5, 2) := g_21 bX6_copy rfl
theorem dX6_copy_259 : decode cX6_copy 259 = .ok (.ireturn, 1) := g_172 bX6_copy rfl
theorem dX6_element_0 : decode cX6_element 0 = .ok (.iload_n 1, 1) := g_27 bX6_element rfl
theorem dX6_element_1 : decode cX6_element 1 = .ok (.i2l, 1) := g_133 bX6_element rfl
theorem dX6_element_2 : decode cX6_element 2 = .ok (.lconst 0, 1) := g_9 bX6_element rfl
theorem dX6_element_3 : decode cX6_element 3 = .ok (.ldc2_w 85, 3) := g_20 bX6_element rfl
theorem dX6_element_6 : decode cX6_element 6 = .ok (.invokestatic 74, 3) := g_184 bX6_element rfl
theorem dX6_element_9 : decode cX6_element 9 = .ok (.ifCond .eq 42, 3) := g_153 42 bX6_element rfl rfl
theorem dX6_element_12 : decode cX6_element 12 = .ok (.aload_n 0, 1) := g_42 bX6_element rfl
theorem dX6_element_13 : decode cX6_element 13 = .ok (.getfield 7, 3) := g_180 bX6_element rfl
theorem dX6_element_16 : decode cX6_element 16 = .ok (.iload_n 1, 1) := g_27 bX6_element rfl
theorem dX6_element_17 : decode cX6_element 17 = .ok (.iaload, 1) := g_46 bX6_element rfl
theorem dX6_element_18 : decode cX6_element 18 = .ok (.iconst 1, 1) := g_4 bX6_element rfl
theorem dX6_element_19 : decode cX6_element 19 = .ok (.if_icmp .ne 32, 3) := g_160 32 bX6_element rfl rfl
theorem dX6_element_22 : decode cX6_element 22 = .ok (.iload_n 2, 1) := g_28 bX6_element rfl
theorem dX6_element_23 : decode cX6_element 23 = .ok (.i2l, 1) := g_133 bX6_element rfl
theorem dX6_element_24 : decode cX6_element 24 = .ok (.lconst 0, 1) := g_9 bX6_element rfl
theorem dX6_element_25 : decode cX6_element 25 = .ok (.aload_n 0, 1) := g_42 bX6_element rfl
theorem dX6_element_26 : decode cX6_element 26 = .ok (.getfield 16, 3) := g_180 bX6_element rfl
theorem dX6_element_29 : decode cX6_element 29 = .ok (.iload_n 1, 1) := g_27 bX6_element rfl
theorem dX6_element_30 : decode cX6_element 30 = .ok (.iaload, 1) := g_46 bX6_element rfl
theorem dX6_element_31 : decode cX6_element 31 = .ok (.iconst 1, 1) := g_4 bX6_element rfl
theorem dX6_element_32 : decode cX6_element 32 = .ok (.isub, 1) := g_100 bX6_element rfl
theorem dX6_element_33 : decode cX6_element 33 = .ok (.i2l, 1) := g_133 bX6_element rfl
theorem dX6_element_34 : decode cX6_element 34 = .ok (.invokestatic 74, 3) := g_184 bX6_element rfl
theorem dX6_element_37 : decode cX6_element 37 = .ok (.ifCond .eq 14, 3) := g_153 14 bX6_element rfl rfl
theorem dX6_element_40 : decode cX6_element 40 = .ok (.aload_n 0, 1) := g_42 bX6_element rfl
theorem dX6_element_41 : decode cX6_element 41 = .ok (.getfield 21, 3) := g_180 bX6_element rfl
theorem dX6_element_44 : decode cX6_element 44 = .ok (.iload_n 1, 1) := g_27 bX6_element rfl
theorem dX6_element_45 : decode cX6_element 45 = .ok (.aaload, 1) := g_50 bX6_element rfl
theorem dX6_element_46 : decode cX6_element 46 = .ok (.iload_n 2, 1) := g_28 bX6_element rfl
theorem dX6_element_47 : decode cX6_element 47 = .ok (.laload, 1) := g_47 bX6_element rfl
theorem dX6_element_48 : decode cX6_element 48 = .ok (.goto 4, 3) := g_167 4 bX6_element rfl rfl
theorem dX6_element_51 : decode cX6_element 51 = .ok (.lconst 0, 1) := g_9 bX6_element rfl
theorem dX6_element_52 : decode cX6_element 52 = .ok (.lreturn, 1) := g_173 bX6_element rfl
theorem dX6_holds_0 : decode cX6_holds 0 = .ok (.iload_n 1, 1) := g_27 bX6_holds rfl
theorem dX6_holds_1 : decode cX6_holds 1 = .ok (.i2l, 1) := g_133 bX6_holds rfl
theorem dX6_holds_2 : decode cX6_holds 2 = .ok (.lconst 0, 1) := g_9 bX6_holds rfl
theorem dX6_holds_3 : decode cX6_holds 3 = .ok (.ldc2_w 85, 3) := g_20 bX6_holds rfl
theorem dX6_holds_6 : decode cX6_holds 6 = .ok (.invokestatic 74, 3) := g_184 bX6_holds rfl
theorem dX6_holds_9 : decode cX6_holds 9 = .ok (.ifCond .eq 12, 3) := g_153 12 bX6_holds rfl rfl
theorem dX6_holds_12 : decode cX6_holds 12 = .ok (.aload_n 0, 1) := g_42 bX6_holds rfl
theorem dX6_holds_13 : decode cX6_holds 13 = .ok (.getfield 7, 3) := g_180 bX6_holds rfl
theorem dX6_holds_16 : decode cX6_holds 16 = .ok (.iload_n 1, 1) := g_27 bX6_holds rfl
theorem dX6_holds_17 : decode cX6_holds 17 = .ok (.iaload, 1) := g_46 bX6_holds rfl
theorem dX6_holds_18 : decode cX6_holds 18 = .ok (.ifCond .ne 5, 3) := g_154 5 bX6_holds rfl rfl
theorem dX6_holds_21 : decode cX6_holds 21 = .ok (.iconst (-1), 1) := g_2 bX6_holds rfl
theorem dX6_holds_22 : decode cX6_holds 22 = .ok (.ireturn, 1) := g_172 bX6_holds rfl
theorem dX6_holds_23 : decode cX6_holds 23 = .ok (.aload_n 0, 1) := g_42 bX6_holds rfl
theorem dX6_holds_24 : decode cX6_holds 24 = .ok (.getfield 7, 3) := g_180 bX6_holds rfl
theorem dX6_holds_27 : decode cX6_holds 27 = .ok (.iload_n 1, 1) := g_27 bX6_holds rfl
theorem dX6_holds_28 : decode cX6_holds 28 = .ok (.iaload, 1) := g_46 bX6_holds rfl
theorem dX6_holds_29 : decode cX6_holds 29 = .ok (.iconst 1, 1) := g_4 bX6_holds rfl
theorem dX6_holds_30 : decode cX6_holds 30 = .ok (.if_icmp .ne 12, 3) := g_160 12 bX6_holds rfl rfl
theorem dX6_holds_33 : decode cX6_holds 33 = .ok (.aload_n 0, 1) := g_42 bX6_holds rfl
theorem dX6_holds_34 : decode cX6_holds 34 = .ok (.getfield 13, 3) := g_180 bX6_holds rfl
theorem dX6_holds_37 : decode cX6_holds 37 = .ok (.iload_n 1, 1) := g_27 bX6_holds rfl
theorem dX6_holds_38 : decode cX6_holds 38 = .ok (.iaload, 1) := g_46 bX6_holds rfl
theorem dX6_holds_39 : decode cX6_holds 39 = .ok (.goto 12, 3) := g_167 12 bX6_holds rfl rfl
theorem dX6_holds_42 : decode cX6_holds 42 = .ok (.bipush 10, 2) := g_16 10 bX6_holds rfl rfl
theorem dX6_holds_44 : decode cX6_holds 44 = .ok (.aload_n 0, 1) := g_42 bX6_holds rfl
theorem dX6_holds_45 : decode cX6_holds 45 = .ok (.getfield 28, 3) := g_180 bX6_holds rfl
theorem dX6_holds_48 : decode cX6_holds 48 = .ok (.iload_n 1, 1) := g_27 bX6_holds rfl
theorem dX6_holds_49 : decode cX6_holds 49 = .ok (.iaload, 1) := g_46 bX6_holds rfl
theorem dX6_holds_50 : decode cX6_holds 50 = .ok (.iadd, 1) := g_96 bX6_holds rfl
theorem dX6_holds_51 : decode cX6_holds 51 = .ok (.ireturn, 1) := g_172 bX6_holds rfl
theorem dX6_row_0 : decode cX6_row 0 = .ok (.iload_n 1, 1) := g_27 bX6_row rfl
theorem dX6_row_1 : decode cX6_row 1 = .ok (.i2l, 1) := g_133 bX6_row rfl
theorem dX6_row_2 : decode cX6_row 2 = .ok (.lconst 0, 1) := g_9 bX6_row rfl
theorem dX6_row_3 : decode cX6_row 3 = .ok (.ldc2_w 85, 3) := g_20 bX6_row rfl
theorem dX6_row_6 : decode cX6_row 6 = .ok (.invokestatic 74, 3) := g_184 bX6_row rfl
theorem dX6_row_9 : decode cX6_row 9 = .ok (.ifCond .eq 27, 3) := g_153 27 bX6_row rfl rfl
theorem dX6_row_12 : decode cX6_row 12 = .ok (.iload_n 2, 1) := g_28 bX6_row rfl
theorem dX6_row_13 : decode cX6_row 13 = .ok (.i2l, 1) := g_133 bX6_row rfl
theorem dX6_row_14 : decode cX6_row 14 = .ok (.lconst 0, 1) := g_9 bX6_row rfl
theorem dX6_row_15 : decode cX6_row 15 = .ok (.ldc2_w 87, 3) := g_20 bX6_row rfl
theorem dX6_row_18 : decode cX6_row 18 = .ok (.invokestatic 74, 3) := g_184 bX6_row rfl
theorem dX6_row_21 : decode cX6_row 21 = .ok (.ifCond .eq 15, 3) := g_153 15 bX6_row rfl rfl
theorem dX6_row_24 : decode cX6_row 24 = .ok (.iload_n 3, 1) := g_29 bX6_row rfl
theorem dX6_row_25 : decode cX6_row 25 = .ok (.i2l, 1) := g_133 bX6_row rfl
theorem dX6_row_26 : decode cX6_row 26 = .ok (.lconst 0, 1) := g_9 bX6_row rfl
theorem dX6_row_27 : decode cX6_row 27 = .ok (.ldc2_w 89, 3) := g_20 bX6_row rfl
theorem dX6_row_30 : decode cX6_row 30 = .ok (.invokestatic 74, 3) := g_184 bX6_row rfl
theorem dX6_row_33 : decode cX6_row 33 = .ok (.ifCond .ne 10, 3) := g_154 10 bX6_row rfl rfl
theorem dX6_row_36 : decode cX6_row 36 = .ok (.aload_n 0, 1) := g_42 bX6_row rfl
theorem dX6_row_37 : decode cX6_row 37 = .ok (.bipush (-2), 2) := g_16 254 bX6_row rfl rfl
theorem dX6_row_39 : decode cX6_row 39 = .ok (.invokevirtual 91, 3) := g_182 bX6_row rfl
theorem dX6_row_42 : decode cX6_row 42 = .ok (.ireturn, 1) := g_172 bX6_row rfl
theorem dX6_row_43 : decode cX6_row 43 = .ok (.aload_n 0, 1) := g_42 bX6_row rfl
theorem dX6_row_44 : decode cX6_row 44 = .ok (.getfield 7, 3) := g_180 bX6_row rfl
theorem dX6_row_47 : decode cX6_row 47 = .ok (.iload_n 1, 1) := g_27 bX6_row rfl
theorem dX6_row_48 : decode cX6_row 48 = .ok (.iconst 1, 1) := g_4 bX6_row rfl
theorem dX6_row_49 : decode cX6_row 49 = .ok (.iastore, 1) := g_79 bX6_row rfl
theorem dX6_row_50 : decode cX6_row 50 = .ok (.aload_n 0, 1) := g_42 bX6_row rfl
theorem dX6_row_51 : decode cX6_row 51 = .ok (.getfield 13, 3) := g_180 bX6_row rfl
theorem dX6_row_54 : decode cX6_row 54 = .ok (.iload_n 1, 1) := g_27 bX6_row rfl
theorem dX6_row_55 : decode cX6_row 55 = .ok (.iload_n 2, 1) := g_28 bX6_row rfl
theorem dX6_row_56 : decode cX6_row 56 = .ok (.iastore, 1) := g_79 bX6_row rfl
theorem dX6_row_57 : decode cX6_row 57 = .ok (.aload_n 0, 1) := g_42 bX6_row rfl
theorem dX6_row_58 : decode cX6_row 58 = .ok (.getfield 16, 3) := g_180 bX6_row rfl
theorem dX6_row_61 : decode cX6_row 61 = .ok (.iload_n 1, 1) := g_27 bX6_row rfl
theorem dX6_row_62 : decode cX6_row 62 = .ok (.iload_n 3, 1) := g_29 bX6_row rfl
theorem dX6_row_63 : decode cX6_row 63 = .ok (.iastore, 1) := g_79 bX6_row rfl
theorem dX6_row_64 : decode cX6_row 64 = .ok (.iconst 0, 1) := g_3 bX6_row rfl
theorem dX6_row_65 : decode cX6_row 65 = .ok (.istore 4, 2) := g_54 bX6_row rfl
theorem dX6_row_67 : decode cX6_row 67 = .ok (.iload 4, 2) := g_21 bX6_row rfl
theorem dX6_row_69 : decode cX6_row 69 = .ok (.bipush 40, 2) := g_16 40 bX6_row rfl rfl
theorem dX6_row_71 : decode cX6_row 71 = .ok (.if_icmp .ge 19, 3) := g_162 19 bX6_row rfl rfl
theorem dX6_row_74 : decode cX6_row 74 = .ok (.aload_n 0, 1) := g_42 bX6_row rfl
theorem dX6_row_75 : decode cX6_row 75 = .ok (.getfield 21, 3) := g_180 bX6_row rfl
theorem dX6_row_78 : decode cX6_row 78 = .ok (.iload_n 1, 1) := g_27 bX6_row rfl
theorem dX6_row_79 : decode cX6_row 79 = .ok (.aaload, 1) := g_50 bX6_row rfl
theorem dX6_row_80 : decode cX6_row 80 = .ok (.iload 4, 2) := g_21 bX6_row rfl
theorem dX6_row_82 : decode cX6_row 82 = .ok (.lconst 0, 1) := g_9 bX6_row rfl
theorem dX6_row_83 : decode cX6_row 83 = .ok (.lastore, 1) := g_80 bX6_row rfl
theorem dX6_row_84 : decode cX6_row 84 = .ok (.iinc 4 1, 3) := g_132 1 bX6_row rfl rfl
theorem dX6_row_87 : decode cX6_row 87 = .ok (.goto (-20), 3) := g_167 65516 bX6_row rfl rfl
theorem dX6_row_90 : decode cX6_row 90 = .ok (.iconst 1, 1) := g_4 bX6_row rfl
theorem dX6_row_91 : decode cX6_row 91 = .ok (.ireturn, 1) := g_172 bX6_row rfl
theorem dX6_rule_0 : decode cX6_rule 0 = .ok (.iload_n 1, 1) := g_27 bX6_rule rfl
theorem dX6_rule_1 : decode cX6_rule 1 = .ok (.i2l, 1) := g_133 bX6_rule rfl
theorem dX6_rule_2 : decode cX6_rule 2 = .ok (.lconst 0, 1) := g_9 bX6_rule rfl
theorem dX6_rule_3 : decode cX6_rule 3 = .ok (.ldc2_w 85, 3) := g_20 bX6_rule rfl
theorem dX6_rule_6 : decode cX6_rule 6 = .ok (.invokestatic 74, 3) := g_184 bX6_rule rfl
theorem dX6_rule_9 : decode cX6_rule 9 = .ok (.ifCond .eq 27, 3) := g_153 27 bX6_rule rfl rfl
theorem dX6_rule_12 : decode cX6_rule 12 = .ok (.iload_n 2, 1) := g_28 bX6_rule rfl
theorem dX6_rule_13 : decode cX6_rule 13 = .ok (.i2l, 1) := g_133 bX6_rule rfl
theorem dX6_rule_14 : decode cX6_rule 14 = .ok (.lconst 1, 1) := g_10 bX6_rule rfl
theorem dX6_rule_15 : decode cX6_rule 15 = .ok (.ldc2_w 102, 3) := g_20 bX6_rule rfl
theorem dX6_rule_18 : decode cX6_rule 18 = .ok (.invokestatic 74, 3) := g_184 bX6_rule rfl
theorem dX6_rule_21 : decode cX6_rule 21 = .ok (.ifCond .eq 15, 3) := g_153 15 bX6_rule rfl rfl
theorem dX6_rule_24 : decode cX6_rule 24 = .ok (.iload_n 3, 1) := g_29 bX6_rule rfl
theorem dX6_rule_25 : decode cX6_rule 25 = .ok (.i2l, 1) := g_133 bX6_rule rfl
theorem dX6_rule_26 : decode cX6_rule 26 = .ok (.lconst 0, 1) := g_9 bX6_rule rfl
theorem dX6_rule_27 : decode cX6_rule 27 = .ok (.ldc2_w 104, 3) := g_20 bX6_rule rfl
theorem dX6_rule_30 : decode cX6_rule 30 = .ok (.invokestatic 74, 3) := g_184 bX6_rule rfl
theorem dX6_rule_33 : decode cX6_rule 33 = .ok (.ifCond .ne 10, 3) := g_154 10 bX6_rule rfl rfl
theorem dX6_rule_36 : decode cX6_rule 36 = .ok (.aload_n 0, 1) := g_42 bX6_rule rfl
theorem dX6_rule_37 : decode cX6_rule 37 = .ok (.bipush (-2), 2) := g_16 254 bX6_rule rfl rfl
theorem dX6_rule_39 : decode cX6_rule 39 = .ok (.invokevirtual 91, 3) := g_182 bX6_rule rfl
theorem dX6_rule_42 : decode cX6_rule 42 = .ok (.ireturn, 1) := g_172 bX6_rule rfl
theorem dX6_rule_43 : decode cX6_rule 43 = .ok (.aload_n 0, 1) := g_42 bX6_rule rfl
theorem dX6_rule_44 : decode cX6_rule 44 = .ok (.getfield 7, 3) := g_180 bX6_rule rfl
theorem dX6_rule_47 : decode cX6_rule 47 = .ok (.iload_n 1, 1) := g_27 bX6_rule rfl
theorem dX6_rule_48 : decode cX6_rule 48 = .ok (.iconst 2, 1) := g_5 bX6_rule rfl
theorem dX6_rule_49 : decode cX6_rule 49 = .ok (.iastore, 1) := g_79 bX6_rule rfl
theorem dX6_rule_50 : decode cX6_rule 50 = .ok (.aload_n 0, 1) := g_42 bX6_rule rfl
theorem dX6_rule_51 : decode cX6_rule 51 = .ok (.getfield 28, 3) := g_180 bX6_rule rfl
theorem dX6_rule_54 : decode cX6_rule 54 = .ok (.iload_n 1, 1) := g_27 bX6_rule rfl
theorem dX6_rule_55 : decode cX6_rule 55 = .ok (.iload_n 2, 1) := g_28 bX6_rule rfl
theorem dX6_rule_56 : decode cX6_rule 56 = .ok (.iastore, 1) := g_79 bX6_rule rfl
theorem dX6_rule_57 : decode cX6_rule 57 = .ok (.aload_n 0, 1) := g_42 bX6_rule rfl
theorem dX6_rule_58 : decode cX6_rule 58 = .ok (.getfield 31, 3) := g_180 bX6_rule rfl
theorem dX6_rule_61 : decode cX6_rule 61 = .ok (.iload_n 1, 1) := g_27 bX6_rule rfl
theorem dX6_rule_62 : decode cX6_rule 62 = .ok (.iload_n 3, 1) := g_29 bX6_rule rfl
theorem dX6_rule_63 : decode cX6_rule 63 = .ok (.iastore, 1) := g_79 bX6_rule rfl
theorem dX6_rule_64 : decode cX6_rule 64 = .ok (.iconst 1, 1) := g_4 bX6_rule rfl
theorem dX6_rule_65 : decode cX6_rule 65 = .ok (.ireturn, 1) := g_172 bX6_rule rfl
theorem dX6_set_0 : decode cX6_set 0 = .ok (.aload_n 0, 1) := g_42 bX6_set rfl
theorem dX6_set_1 : decode cX6_set 1 = .ok (.iload_n 1, 1) := g_27 bX6_set rfl
theorem dX6_set_2 : decode cX6_set 2 = .ok (.invokevirtual 95, 3) := g_182 bX6_set rfl
theorem dX6_set_5 : decode cX6_set 5 = .ok (.istore 5, 2) := g_54 bX6_set rfl
theorem dX6_set_7 : decode cX6_set 7 = .ok (.iload 5, 2) := g_21 bX6_set rfl
theorem dX6_set_9 : decode cX6_set 9 = .ok (.ifCond .eq 6, 3) := g_153 6 bX6_set rfl rfl
theorem dX6_set_12 : decode cX6_set 12 = .ok (.iload 5, 2) := g_21 bX6_set rfl
theorem dX6_set_14 : decode cX6_set 14 = .ok (.ireturn, 1) := g_172 bX6_set rfl
theorem dX6_set_15 : decode cX6_set 15 = .ok (.iload_n 2, 1) := g_28 bX6_set rfl
theorem dX6_set_16 : decode cX6_set 16 = .ok (.i2l, 1) := g_133 bX6_set rfl
theorem dX6_set_17 : decode cX6_set 17 = .ok (.lconst 0, 1) := g_9 bX6_set rfl
theorem dX6_set_18 : decode cX6_set 18 = .ok (.aload_n 0, 1) := g_42 bX6_set rfl
theorem dX6_set_19 : decode cX6_set 19 = .ok (.getfield 16, 3) := g_180 bX6_set rfl
theorem dX6_set_22 : decode cX6_set 22 = .ok (.iload_n 1, 1) := g_27 bX6_set rfl
theorem dX6_set_23 : decode cX6_set 23 = .ok (.iaload, 1) := g_46 bX6_set rfl
theorem dX6_set_24 : decode cX6_set 24 = .ok (.iconst 1, 1) := g_4 bX6_set rfl
theorem dX6_set_25 : decode cX6_set 25 = .ok (.isub, 1) := g_100 bX6_set rfl
theorem dX6_set_26 : decode cX6_set 26 = .ok (.i2l, 1) := g_133 bX6_set rfl
theorem dX6_set_27 : decode cX6_set 27 = .ok (.invokestatic 74, 3) := g_184 bX6_set rfl
theorem dX6_set_30 : decode cX6_set 30 = .ok (.ifCond .ne 10, 3) := g_154 10 bX6_set rfl rfl
theorem dX6_set_33 : decode cX6_set 33 = .ok (.aload_n 0, 1) := g_42 bX6_set rfl
theorem dX6_set_34 : decode cX6_set 34 = .ok (.bipush (-2), 2) := g_16 254 bX6_set rfl rfl
theorem dX6_set_36 : decode cX6_set 36 = .ok (.invokevirtual 91, 3) := g_182 bX6_set rfl
theorem dX6_set_39 : decode cX6_set 39 = .ok (.ireturn, 1) := g_172 bX6_set rfl
theorem dX6_set_40 : decode cX6_set 40 = .ok (.aload_n 0, 1) := g_42 bX6_set rfl
theorem dX6_set_41 : decode cX6_set 41 = .ok (.getfield 21, 3) := g_180 bX6_set rfl
theorem dX6_set_44 : decode cX6_set 44 = .ok (.iload_n 1, 1) := g_27 bX6_set rfl
theorem dX6_set_45 : decode cX6_set 45 = .ok (.aaload, 1) := g_50 bX6_set rfl
theorem dX6_set_46 : decode cX6_set 46 = .ok (.iload_n 2, 1) := g_28 bX6_set rfl
theorem dX6_set_47 : decode cX6_set 47 = .ok (.aload_n 0, 1) := g_42 bX6_set rfl
theorem dX6_set_48 : decode cX6_set 48 = .ok (.getfield 13, 3) := g_180 bX6_set rfl
theorem dX6_set_51 : decode cX6_set 51 = .ok (.iload_n 1, 1) := g_27 bX6_set rfl
theorem dX6_set_52 : decode cX6_set 52 = .ok (.iaload, 1) := g_46 bX6_set rfl
theorem dX6_set_53 : decode cX6_set 53 = .ok (.lload_n 3, 1) := g_33 bX6_set rfl
theorem dX6_set_54 : decode cX6_set 54 = .ok (.invokestatic 98, 3) := g_184 bX6_set rfl
theorem dX6_set_57 : decode cX6_set 57 = .ok (.lastore, 1) := g_80 bX6_set rfl
theorem dX6_set_58 : decode cX6_set 58 = .ok (.iconst 1, 1) := g_4 bX6_set rfl
theorem dX6_set_59 : decode cX6_set 59 = .ok (.ireturn, 1) := g_172 bX6_set rfl
noncomputable def zrN (e : Nat → Nat → Int64) (k : Nat) : Nat → Nat → Nat → Int64
  | 0 => e
  | j + 1 => updN (zrN e k j) k j 0
noncomputable def PMrow (h o z : Nat → Int32) (e : Nat → Nat → Int64) (a b c r : Int32) (h' o' z' : Nat → Int32) (e' : Nat → Nat → Int64) : Prop := (r = -2 ∧ ¬ (Sh a ∧ Iv b.toInt64 0 4 ∧ Iv c.toInt64 0 40) ∧ h' = h ∧ o' = o ∧ z' = z ∧ e' = e) ∨ (r = 1 ∧ ∃ k n : Nat, k < 8 ∧ n ≤ 40 ∧ a = nI k ∧ c = nI n ∧ Iv b.toInt64 0 4 ∧ h' = upd h k 1 ∧ o' = upd o k b ∧ z' = upd z k (nI n) ∧ e' = zrN e k 40)
noncomputable def PMset (h o z : Nat → Int32) (e : Nat → Nat → Int64) (a b : Int32) (v : Int64) (r : Int32) (e' : Nat → Nat → Int64) : Prop := (r = -2 ∧ (¬ Sh a ∨ ∃ k : Nat, k < 8 ∧ a = nI k ∧ ¬ h k = 2 ∧ ¬ h k = 0 ∧ ¬ Iv b.toInt64 0 (z k - 1).toInt64) ∧ e' = e) ∨ (r = -3 ∧ (∃ k : Nat, k < 8 ∧ a = nI k ∧ h k = 2) ∧ e' = e) ∨ (r = -4 ∧ (∃ k : Nat, k < 8 ∧ a = nI k ∧ ¬ h k = 2 ∧ h k = 0) ∧ e' = e) ∨ (r = 1 ∧ ∃ k i : Nat, k < 8 ∧ a = nI k ∧ ¬ h k = 2 ∧ ¬ h k = 0 ∧ i < 40 ∧ b = nI i ∧ Iv b.toInt64 0 (z k - 1).toInt64 ∧ e' = updN e k i (zft (o k) v))
noncomputable abbrev SpM (i j n zp zq : Int32) : Prop := ¬ n < 0 ∧ ¬ i < 0 ∧ ¬ j < 0 ∧ ¬ zp < n ∧ ¬ zq < n ∧ ¬ zp - n < i ∧ j ≤ zq - n
noncomputable def PMcopy (h o z : Nat → Int32) (e : Nat → Nat → Int64) (a b c d n r : Int32) (e' : Nat → Nat → Int64) : Prop := (r = -2 ∧ ((¬ ∃ k m : Nat, k < 8 ∧ m < 8 ∧ a = nI k ∧ b = nI m) ∨ ∃ k m : Nat, k < 8 ∧ m < 8 ∧ a = nI k ∧ b = nI m ∧ ¬ h k = 2 ∧ ¬ h m = 2 ∧ ¬ h k = 0 ∧ ¬ h m = 0 ∧ (h k = 1 → h m = 1 → o k = o m) ∧ ¬ SpM c d n (z k) (z m)) ∧ e' = e) ∨ (r = -3 ∧ (∃ k m : Nat, k < 8 ∧ m < 8 ∧ a = nI k ∧ b = nI m ∧ (h k = 2 ∨ h m = 2 ∨ (h k = 1 ∧ h m = 1 ∧ ¬ o k = o m))) ∧ e' = e) ∨ (r = -4 ∧ (∃ k m : Nat, k < 8 ∧ m < 8 ∧ a = nI k ∧ b = nI m ∧ ¬ h k = 2 ∧ ¬ h m = 2 ∧ (h k = 0 ∨ h m = 0)) ∧ e' = e) ∨ (r = n ∧ ∃ k m i j x : Nat, k < 8 ∧ m < 8 ∧ a = nI k ∧ b = nI m ∧ ¬ h k = 2 ∧ ¬ h m = 2 ∧ ¬ h k = 0 ∧ ¬ h m = 0 ∧ (h k = 1 → h m = 1 → o k = o m) ∧ c = nI i ∧ d = nI j ∧ n = nI x ∧ i + x ≤ 40 ∧ j + x ≤ 40 ∧ SpM c d n (z k) (z m) ∧ ∀ s y, e' s y = if s = m ∧ j ≤ y ∧ y < j + x then e k (i + (y - j)) else e s y)
noncomputable def PMelem (h z : Nat → Int32) (e : Nat → Nat → Int64) (a b : Int32) (r : Int64) : Prop := (r = 0 ∧ ¬ ∃ k : Nat, k < 8 ∧ a = nI k ∧ h k = 1 ∧ Iv b.toInt64 0 (z k - 1).toInt64) ∨ ∃ k i : Nat, k < 8 ∧ a = nI k ∧ h k = 1 ∧ i < 40 ∧ b = nI i ∧ Iv b.toInt64 0 (z k - 1).toInt64 ∧ r = e k i
noncomputable def PMholds (h o q : Nat → Int32) (a r : Int32) : Prop := (r = -1 ∧ ¬ Sh a) ∨ ∃ k : Nat, k < 8 ∧ a = nI k ∧ ((h k = 0 ∧ r = -1) ∨ (h k = 1 ∧ r = o k) ∨ (¬ h k = 0 ∧ ¬ h k = 1 ∧ r = 10 + q k))
noncomputable def PMrule (h q am : Nat → Int32) (a b c r : Int32) (h' q' am' : Nat → Int32) : Prop := (r = -2 ∧ ¬ (Sh a ∧ Iv b.toInt64 1 6 ∧ Iv c.toInt64 0 99) ∧ h' = h ∧ q' = q ∧ am' = am) ∨ (r = 1 ∧ ∃ k : Nat, k < 8 ∧ a = nI k ∧ Iv b.toInt64 1 6 ∧ Iv c.toInt64 0 99 ∧ h' = upd h k 2 ∧ q' = upd q k b ∧ am' = upd am k c)
theorem cp_stepL {g f : Nat → Int64} {i m : Nat} (h : ∀ x, x < m → g x = f (i + x)) : ∀ x, x < m + 1 → vp_updL g m (f (i + m)) x = f (i + x) := fun x hx => by
  show (if x = m then f (i + m) else g x) = f (i + x)
  split
  · next e => rw [e]
  · next e => exact h x (by omega)
theorem cp_stepN {K e : Nat → Nat → Int64} {p q i j n : Nat} {v : Int64} (h : ∀ s x, K s x = if s = q ∧ j ≤ x ∧ x < j + n then e p (i + (x - j)) else e s x) (hv : v = e p (i + n)) : ∀ s x, updN K q (j + n) v s x = if s = q ∧ j ≤ x ∧ x < j + (n + 1) then e p (i + (x - j)) else e s x := fun s x => by
  unfold updN
  by_cases hs : s = q
  · subst hs
    rw [if_pos rfl]
    show (if x = j + n then v else K s x) = _
    by_cases hx : x = j + n
    · subst hx
      rw [if_pos rfl, if_pos ⟨rfl, by omega, by omega⟩, hv]
      congr 1
      omega
    · rw [if_neg hx, h]
      by_cases h2 : j ≤ x ∧ x < j + n
      · rw [if_pos ⟨rfl, h2⟩, if_pos ⟨rfl, by omega, by omega⟩]
      · rw [if_neg (fun q => h2 q.2), if_neg (fun q => h2 (by omega))]
  · rw [if_neg hs, h, if_neg (fun q => hs q.1), if_neg (fun q => hs q.1)]
theorem cp_of {i j n zp zq : Int32} {a b : Nat} (ea : zp = nI a) (ha : a ≤ 40) (eb : zq = nI b) (hb : b ≤ 40) (h1 : ¬ n < 0) (h2 : ¬ i < 0) (h3 : ¬ j < 0) (h4 : ¬ zp < n) (h5 : ¬ zq < n) (h6 : ¬ zp - n < i) (h7 : j ≤ zq - n) : ∃ x z y : Nat, x + z ≤ 40 ∧ y + z ≤ 40 ∧ i = nI x ∧ j = nI y ∧ n = nI z := by
  subst ea eb
  obtain ⟨z, hz, rfl⟩ := nI_of h1
  obtain ⟨x, hx, rfl⟩ := nI_of h2
  obtain ⟨y, hy, rfl⟩ := nI_of h3
  rw [Int32.lt_iff_toInt_lt, nI_toInt (by omega), nI_toInt hz] at h4 h5
  have k4 : z ≤ a := by omega
  have k5 : z ≤ b := by omega
  rw [pk_sub k4, Int32.lt_iff_toInt_lt, nI_toInt (by omega), nI_toInt hx] at h6
  rw [pk_sub k5, Int32.le_iff_toInt_le, nI_toInt hy, nI_toInt (by omega)] at h7
  exact ⟨x, z, y, by omega, by omega, rfl, rfl, rfl⟩
set_option maxHeartbeats 4000000 in
set_option maxRecDepth 100000 in
theorem p_X6_row (l : Launch) (G : va_G) (cy : Nat → ClassId) (sz : Nat) (qm : Nat) (qmh : Nat) (qmo : Nat) (qmz : Nat) (qmR : Nat) (qmv : Nat) (qmk : Nat) (qma : Nat) (qmt : Nat) (kZ : Nat) (qmr : Nat) (tA : TA) (qmB : Nat) (qmO : Nat) (qmK : Nat) (iEn : Int32) (iTk : Int32) (uP : UM) (uU : UM) (kAt : Nat) (iTo : Int32) (iFr : Int32) (JFi : Int64) (iFa : Int32) (qm3 : Nat) (iSt : Int32) (iLv : Int32) (iWs : Int32) (vLa : Value) (qmu : Nat) (qmy : Nat) (qmb : Nat) (qms : Nat) (iOm : Int32) (fMh : Nat → Int32) (fMo : Nat → Int32) (fMz : Nat → Int32) (rR : Nat → Nat) (eR : Nat → Nat → Int64) (fMr : Nat → Int32) (iA : Int32) (iB : Int32) (iC : Int32)  (hSz : ∀ s, s < 8 → ∃ n : Nat, n ≤ 40 ∧ fMz s = nI n) : MW l yX6_row cX6_row 5 (some .int) 16 0 0 G cy [zzO qm 5 [.ref qmh, .ref qmo, .ref qmz, .ref qmR, .ref qmv, .ref qmk, .ref qma, .ref qmt, .int (nI kZ), .ref qmr, .int (nI (T_nb tA)), .ref qmB, .int (nI (T_np tA)), .ref qmO, .ref qmK, .int iEn, .int iTk, .int (T_sd tA), ov uP, ov uU, .int (nI kAt), .int iTo, .int iFr, .long JFi, .int iFa, .ref qm3, .int iSt, .int iLv, .int iWs, vLa, .ref qmu, .ref qmy, .ref qmb, .ref qms, .int iOm], zzI cy qmh 8 fMh, zzI cy qmo 8 fMo, zzI cy qmz 8 fMz, zzG cy 4 qmR rR, zzJ cy (rR 0) 40 (eR 0), zzJ cy (rR 1) 40 (eR 1), zzJ cy (rR 2) 40 (eR 2), zzJ cy (rR 3) 40 (eR 3), zzJ cy (rR 4) 40 (eR 4), zzJ cy (rR 5) 40 (eR 5), zzJ cy (rR 6) 40 (eR 6), zzJ cy (rR 7) 40 (eR 7), zzI cy qmr 8 fMr] sz [.ref qm, .int iA, .int iB, .int iC] (Wi G (fun r u => ∃ (fNh : Nat → Int32) (fNo : Nat → Int32) (fNz : Nat → Int32) (eN : Nat → Nat → Int64) (fNr : Nat → Int32), u = [zzO qm 5 [.ref qmh, .ref qmo, .ref qmz, .ref qmR, .ref qmv, .ref qmk, .ref qma, .ref qmt, .int (nI kZ), .ref qmr, .int (nI (T_nb tA)), .ref qmB, .int (nI (T_np tA)), .ref qmO, .ref qmK, .int iEn, .int iTk, .int (T_sd tA), ov uP, ov uU, .int (nI kAt), .int iTo, .int iFr, .long JFi, .int iFa, .ref qm3, .int iSt, .int iLv, .int iWs, vLa, .ref qmu, .ref qmy, .ref qmb, .ref qms, .int iOm], zzI cy qmh 8 fNh, zzI cy qmo 8 fNo, zzI cy qmz 8 fNz, zzG cy 4 qmR rR, zzJ cy (rR 0) 40 (eN 0), zzJ cy (rR 1) 40 (eN 1), zzJ cy (rR 2) 40 (eN 2), zzJ cy (rR 3) 40 (eN 3), zzJ cy (rR 4) 40 (eN 4), zzJ cy (rR 5) 40 (eN 5), zzJ cy (rR 6) 40 (eN 6), zzJ cy (rR 7) 40 (eN 7), zzI cy qmr 8 fNr] ∧ (PMrow fMh fMo fMz eR iA iB iC r fNh fNo fNz eN) ∧ (True))) := by
  refine enW RX6 (by decide) rfl (Nat.le_of_ble_eq_true rfl) (fun p e s m below meth c ls A hx hb hml hown hts hr hlocks hP hN hl hin hD hA hS => ?_)
  have hin : meth.name = _ := hin
  have hK := hN.1
  replace hl : lv_has ls 5 [(0, .ref qm), (1, .int iA), (2, .int iB), (3, .int iC)] := hl
  refine lv_iload_n hx hb dX6_row_0 rfl (lv_at hl 1 rfl) ?_
  refine lv_i2l (v := iA.toInt64) hx hb dX6_row_1 rfl ?_
  refine lv_lconst (v := 0) hx hb dX6_row_2 (by decide) ?_
  refine lv_ldc2 hx hb hown (hts _ m_t960) dX6_row_3 ?_
  refine kRi (rS (As := [.long iA.toInt64, .long 0, .long 7]) (rest := []) ⟨hx, hb, hml, hown, hts⟩ (c_X6_in l G cy iA.toInt64 0 7) L_X6_74 (preRS hN hP [] rfl) rfl ⟨Nat.le_of_ble_eq_true rfl, Nat.le_of_ble_eq_true rfl⟩ hl.1 (Nat.le_of_ble_eq_true rfl) dX6_row_6 ⟨Nat.le_of_ble_eq_true rfl, Nat.le_of_ble_eq_true rfl⟩) (fun r_1 h_2 => ?_)
  rcases h_2 with ⟨rfl, h_3⟩ | ⟨rfl, h_3⟩
  · obtain ⟨k_4, hk_5, hk_6, rfl⟩ := iv_nI 0 7 (by decide) (by decide) h_3
    refine lv_if_eq (tgt := 36) hx hb dX6_row_9 (by decide) (fun h9 => absurd h9 (by decide)) (fun _ => ?_)
    refine lv_iload_n hx hb dX6_row_12 rfl (lv_at hl 2 rfl) ?_
    refine lv_i2l (v := iB.toInt64) hx hb dX6_row_13 rfl ?_
    refine lv_lconst (v := 0) hx hb dX6_row_14 (by decide) ?_
    refine lv_ldc2 hx hb hown (hts _ m_t964) dX6_row_15 ?_
    refine kRi (rS (As := [.long iB.toInt64, .long 0, .long 4]) (rest := []) ⟨hx, hb, hml, hown, hts⟩ (c_X6_in l G cy iB.toInt64 0 4) L_X6_74 (preRS hN hP [] rfl) rfl ⟨Nat.le_of_ble_eq_true rfl, Nat.le_of_ble_eq_true rfl⟩ hl.1 (Nat.le_of_ble_eq_true rfl) dX6_row_18 ⟨Nat.le_of_ble_eq_true rfl, Nat.le_of_ble_eq_true rfl⟩) (fun r_8 h_9 => ?_)
    rcases h_9 with ⟨rfl, h_10⟩ | ⟨rfl, h_10⟩
    · refine lv_if_eq (tgt := 36) hx hb dX6_row_21 (by decide) (fun h9 => absurd h9 (by decide)) (fun _ => ?_)
      refine lv_iload_n hx hb dX6_row_24 rfl (lv_at hl 3 rfl) ?_
      refine lv_i2l (v := iC.toInt64) hx hb dX6_row_25 rfl ?_
      refine lv_lconst (v := 0) hx hb dX6_row_26 (by decide) ?_
      refine lv_ldc2 hx hb hown (hts _ m_t965) dX6_row_27 ?_
      refine kRi (rS (As := [.long iC.toInt64, .long 0, .long 40]) (rest := []) ⟨hx, hb, hml, hown, hts⟩ (c_X6_in l G cy iC.toInt64 0 40) L_X6_74 (preRS hN hP [] rfl) rfl ⟨Nat.le_of_ble_eq_true rfl, Nat.le_of_ble_eq_true rfl⟩ hl.1 (Nat.le_of_ble_eq_true rfl) dX6_row_30 ⟨Nat.le_of_ble_eq_true rfl, Nat.le_of_ble_eq_true rfl⟩) (fun r_12 h_13 => ?_)
      rcases h_13 with ⟨rfl, h_14⟩ | ⟨rfl, h_14⟩
      · obtain ⟨k_15, hk_16, hk_17, rfl⟩ := iv_nI 0 40 (by decide) (by decide) h_14
        refine lv_if_ne (tgt := 43) hx hb dX6_row_33 (by decide) (fun _ => ?_) (fun h9 => absurd h9 (by decide))
        refine lv_aload_n hx hb dX6_row_43 rfl (lv_at hl 0 rfl) ?_
        refine va_get (D := G) (ci := 5) (v := .ref qmh) (C := RX6) (T := TX6) (N := 35) hx hb hts iX_X6 hown hK hP 0 rfl rfl 0 (by decide) (hts _ m_t850) (fun _ h9 => h9) rfl dX6_row_44 ?_
        refine lv_iload_n hx hb dX6_row_47 rfl (lv_at hl 1 rfl) ?_
        refine lv_iconst (v := 1) hx hb dX6_row_48 (by decide) ?_
        refine va_iast hx hb hK hP hD hS 1 0 rfl rfl (in_shelf h_3) dX6_row_49 (fun H locs => ?_)
        clear hP hD hS
        intro hP hD hS
        rw [cl8 (k := k_4) (by omega)] at hP hD
        have hPD := pd_as [zzO qm 5 [.ref qmh, .ref qmo, .ref qmz, .ref qmR, .ref qmv, .ref qmk, .ref qma, .ref qmt, .int (nI kZ), .ref qmr, .int (nI (T_nb tA)), .ref qmB, .int (nI (T_np tA)), .ref qmO, .ref qmK, .int iEn, .int iTk, .int (T_sd tA), ov uP, ov uU, .int (nI kAt), .int iTo, .int iFr, .long JFi, .int iFa, .ref qm3, .int iSt, .int iLv, .int iWs, vLa, .ref qmu, .ref qmy, .ref qmb, .ref qms, .int iOm], zzI cy qmh 8 (upd fMh k_4 1), zzI cy qmo 8 fMo, zzI cy qmz 8 fMz, zzG cy 4 qmR rR, zzJ cy (rR 0) 40 (eR 0), zzJ cy (rR 1) 40 (eR 1), zzJ cy (rR 2) 40 (eR 2), zzJ cy (rR 3) 40 (eR 3), zzJ cy (rR 4) 40 (eR 4), zzJ cy (rR 5) 40 (eR 5), zzJ cy (rR 6) 40 (eR 6), zzJ cy (rR 7) 40 (eR 7), zzI cy qmr 8 fMr] hP hD rfl
        clear hP hD
        obtain ⟨hP, hD⟩ := hPD
        refine lv_aload_n hx hb dX6_row_50 rfl (lv_at hl 0 rfl) ?_
        refine va_get (D := G) (ci := 5) (v := .ref qmo) (C := RX6) (T := TX6) (N := 35) hx hb hts iX_X6 hown hK hP 0 rfl rfl 1 (by decide) (hts _ m_t851) (fun _ h9 => h9) rfl dX6_row_51 ?_
        refine lv_iload_n hx hb dX6_row_54 rfl (lv_at hl 1 rfl) ?_
        refine lv_iload_n hx hb dX6_row_55 rfl (lv_at hl 2 rfl) ?_
        refine va_iast hx hb hK hP hD hS 2 0 rfl rfl (in_shelf h_3) dX6_row_56 (fun H locs => ?_)
        clear hP hD hS
        intro hP hD hS
        rw [cl8 (k := k_4) (by omega)] at hP hD
        have hPD := pd_as [zzO qm 5 [.ref qmh, .ref qmo, .ref qmz, .ref qmR, .ref qmv, .ref qmk, .ref qma, .ref qmt, .int (nI kZ), .ref qmr, .int (nI (T_nb tA)), .ref qmB, .int (nI (T_np tA)), .ref qmO, .ref qmK, .int iEn, .int iTk, .int (T_sd tA), ov uP, ov uU, .int (nI kAt), .int iTo, .int iFr, .long JFi, .int iFa, .ref qm3, .int iSt, .int iLv, .int iWs, vLa, .ref qmu, .ref qmy, .ref qmb, .ref qms, .int iOm], zzI cy qmh 8 (upd fMh k_4 1), zzI cy qmo 8 (upd fMo k_4 iB), zzI cy qmz 8 fMz, zzG cy 4 qmR rR, zzJ cy (rR 0) 40 (eR 0), zzJ cy (rR 1) 40 (eR 1), zzJ cy (rR 2) 40 (eR 2), zzJ cy (rR 3) 40 (eR 3), zzJ cy (rR 4) 40 (eR 4), zzJ cy (rR 5) 40 (eR 5), zzJ cy (rR 6) 40 (eR 6), zzJ cy (rR 7) 40 (eR 7), zzI cy qmr 8 fMr] hP hD rfl
        clear hP hD
        obtain ⟨hP, hD⟩ := hPD
        refine lv_aload_n hx hb dX6_row_57 rfl (lv_at hl 0 rfl) ?_
        refine va_get (D := G) (ci := 5) (v := .ref qmz) (C := RX6) (T := TX6) (N := 35) hx hb hts iX_X6 hown hK hP 0 rfl rfl 2 (by decide) (hts _ m_t852) (fun _ h9 => h9) rfl dX6_row_58 ?_
        refine lv_iload_n hx hb dX6_row_61 rfl (lv_at hl 1 rfl) ?_
        refine lv_iload_n hx hb dX6_row_62 rfl (lv_at hl 3 rfl) ?_
        refine va_iast hx hb hK hP hD hS 3 0 rfl rfl (in_shelf h_3) dX6_row_63 (fun H locs => ?_)
        clear hP hD hS
        intro hP hD hS
        rw [cl8 (k := k_4) (by omega)] at hP hD
        have hPD := pd_as [zzO qm 5 [.ref qmh, .ref qmo, .ref qmz, .ref qmR, .ref qmv, .ref qmk, .ref qma, .ref qmt, .int (nI kZ), .ref qmr, .int (nI (T_nb tA)), .ref qmB, .int (nI (T_np tA)), .ref qmO, .ref qmK, .int iEn, .int iTk, .int (T_sd tA), ov uP, ov uU, .int (nI kAt), .int iTo, .int iFr, .long JFi, .int iFa, .ref qm3, .int iSt, .int iLv, .int iWs, vLa, .ref qmu, .ref qmy, .ref qmb, .ref qms, .int iOm], zzI cy qmh 8 (upd fMh k_4 1), zzI cy qmo 8 (upd fMo k_4 iB), zzI cy qmz 8 (upd fMz k_4 (nI k_15)), zzG cy 4 qmR rR, zzJ cy (rR 0) 40 (eR 0), zzJ cy (rR 1) 40 (eR 1), zzJ cy (rR 2) 40 (eR 2), zzJ cy (rR 3) 40 (eR 3), zzJ cy (rR 4) 40 (eR 4), zzJ cy (rR 5) 40 (eR 5), zzJ cy (rR 6) 40 (eR 6), zzJ cy (rR 7) 40 (eR 7), zzI cy qmr 8 fMr] hP hD rfl
        clear hP hD
        obtain ⟨hP, hD⟩ := hPD
        refine lv_iconst (v := 0) hx hb dX6_row_64 (by decide) ?_
        refine lv_istore (lv' := [(4, .int 0), (0, .ref qm), (1, .int (nI k_4)), (2, .int iB), (3, .int (nI k_15))]) hx hb dX6_row_65 hl (by decide) rfl (fun ls => ?_)
        clear hl
        intro hl
        have lp_19 : ∀ (n_20 : Nat) (j_22 : Nat) (eJ_23 : Nat → Nat → Int64), 40 - j_22 < n_20 → j_22 ≤ 40 → eJ_23 = zrN eR k_4 j_22 → ∀ (H : Heap) (locs : List Loc) (ls : Array Slot), va_P G CL [zzO qm 5 [.ref qmh, .ref qmo, .ref qmz, .ref qmR, .ref qmv, .ref qmk, .ref qma, .ref qmt, .int (nI kZ), .ref qmr, .int (nI (T_nb tA)), .ref qmB, .int (nI (T_np tA)), .ref qmO, .ref qmK, .int iEn, .int iTk, .int (T_sd tA), ov uP, ov uU, .int (nI kAt), .int iTo, .int iFr, .long JFi, .int iFa, .ref qm3, .int iSt, .int iLv, .int iWs, vLa, .ref qmu, .ref qmy, .ref qmb, .ref qms, .int iOm], zzI cy qmh 8 (upd fMh k_4 1), zzI cy qmo 8 (upd fMo k_4 iB), zzI cy qmz 8 (upd fMz k_4 (nI k_15)), zzG cy 4 qmR rR, zzJ cy (rR 0) 40 (eJ_23 0), zzJ cy (rR 1) 40 (eJ_23 1), zzJ cy (rR 2) 40 (eJ_23 2), zzJ cy (rR 3) 40 (eJ_23 3), zzJ cy (rR 4) 40 (eJ_23 4), zzJ cy (rR 5) 40 (eJ_23 5), zzJ cy (rR 6) 40 (eJ_23 6), zzJ cy (rR 7) 40 (eJ_23 7), zzI cy qmr 8 fMr] H → va_D A [zzO qm 5 [.ref qmh, .ref qmo, .ref qmz, .ref qmR, .ref qmv, .ref qmk, .ref qma, .ref qmt, .int (nI kZ), .ref qmr, .int (nI (T_nb tA)), .ref qmB, .int (nI (T_np tA)), .ref qmO, .ref qmK, .int iEn, .int iTk, .int (T_sd tA), ov uP, ov uU, .int (nI kAt), .int iTo, .int iFr, .long JFi, .int iFa, .ref qm3, .int iSt, .int iLv, .int iWs, vLa, .ref qmu, .ref qmy, .ref qmb, .ref qms, .int iOm], zzI cy qmh 8 (upd fMh k_4 1), zzI cy qmo 8 (upd fMo k_4 iB), zzI cy qmz 8 (upd fMz k_4 (nI k_15)), zzG cy 4 qmR rR, zzJ cy (rR 0) 40 (eJ_23 0), zzJ cy (rR 1) 40 (eJ_23 1), zzJ cy (rR 2) 40 (eJ_23 2), zzJ cy (rR 3) 40 (eJ_23 3), zzJ cy (rR 4) 40 (eJ_23 4), zzJ cy (rR 5) 40 (eJ_23 5), zzJ cy (rR 6) 40 (eJ_23 6), zzJ cy (rR 7) 40 (eJ_23 7), zzI cy qmr 8 fMr] → va_S A s.heap H locs → lv_has ls 5 [(4, .int (nI j_22)), (0, .ref qm), (1, .int (nI k_4)), (2, .int iB), (3, .int (nI k_15))] → W p l e (Rm 16 0 0) s m (List.toArray (α := Value) [.ref qm, .int (nI k_4), .int iB, .int (nI k_15)]) below meth c H locs 0 0 (MQ below ((Wi G (fun r u => ∃ (fNh : Nat → Int32) (fNo : Nat → Int32) (fNz : Nat → Int32) (eN : Nat → Nat → Int64) (fNr : Nat → Int32), u = [zzO qm 5 [.ref qmh, .ref qmo, .ref qmz, .ref qmR, .ref qmv, .ref qmk, .ref qma, .ref qmt, .int (nI kZ), .ref qmr, .int (nI (T_nb tA)), .ref qmB, .int (nI (T_np tA)), .ref qmO, .ref qmK, .int iEn, .int iTk, .int (T_sd tA), ov uP, ov uU, .int (nI kAt), .int iTo, .int iFr, .long JFi, .int iFa, .ref qm3, .int iSt, .int iLv, .int iWs, vLa, .ref qmu, .ref qmy, .ref qmb, .ref qms, .int iOm], zzI cy qmh 8 fNh, zzI cy qmo 8 fNo, zzI cy qmz 8 fNz, zzG cy 4 qmR rR, zzJ cy (rR 0) 40 (eN 0), zzJ cy (rR 1) 40 (eN 1), zzJ cy (rR 2) 40 (eN 2), zzJ cy (rR 3) 40 (eN 3), zzJ cy (rR 4) 40 (eN 4), zzJ cy (rR 5) 40 (eN 5), zzJ cy (rR 6) 40 (eN 6), zzJ cy (rR 7) 40 (eN 7), zzI cy qmr 8 fNr] ∧ (PMrow fMh fMo fMz eR (nI k_4) iB (nI k_15) r fNh fNo fNz eN) ∧ (True))) A) (List.toArray (α := Value) [.ref qm, .int (nI k_4), .int iB, .int (nI k_15)]) s 0 0 A) (F0 m 67 ls []) := by
          intro n_20
          induction n_20 with
          | zero => intro j_22 eJ_23 hm9; exact absurd hm9 (Nat.not_lt_zero _)
          | succ n_20 ih_21 =>
            intro j_22 eJ_23 hm_26 hj_24 heJ_25 H locs ls hP hD hS hl
            refine lv_iload hx hb dX6_row_67 (lv_at hl 0 rfl) ?_
            refine lv_bipush (v := 40) hx hb dX6_row_69 (by decide) ?_
            refine lv_icmp_ge (tgt := 90) hx hb dX6_row_71 (by decide) (fun c_27 => ?_) (fun c_27 => ?_)
            · have hlt_28 : j_22 = 40 := Nat.le_antisymm (by omega) (lp_ge rfl (rfl : (40 : Int32) = nI 40) (by omega) (by omega) c_27)
              have e9_29 : eJ_23 = zrN eR k_4 40 := by rw [heJ_25, hlt_28]
              subst e9_29
              have hPD := pd_as [zzO qm 5 [.ref qmh, .ref qmo, .ref qmz, .ref qmR, .ref qmv, .ref qmk, .ref qma, .ref qmt, .int (nI kZ), .ref qmr, .int (nI (T_nb tA)), .ref qmB, .int (nI (T_np tA)), .ref qmO, .ref qmK, .int iEn, .int iTk, .int (T_sd tA), ov uP, ov uU, .int (nI kAt), .int iTo, .int iFr, .long JFi, .int iFa, .ref qm3, .int iSt, .int iLv, .int iWs, vLa, .ref qmu, .ref qmy, .ref qmb, .ref qms, .int iOm], zzI cy qmh 8 (upd fMh k_4 1), zzI cy qmo 8 (upd fMo k_4 iB), zzI cy qmz 8 (upd fMz k_4 (nI k_15)), zzG cy 4 qmR rR, zzJ cy (rR 0) 40 (zrN eR k_4 40 0), zzJ cy (rR 1) 40 (zrN eR k_4 40 1), zzJ cy (rR 2) 40 (zrN eR k_4 40 2), zzJ cy (rR 3) 40 (zrN eR k_4 40 3), zzJ cy (rR 4) 40 (zrN eR k_4 40 4), zzJ cy (rR 5) 40 (zrN eR k_4 40 5), zzJ cy (rR 6) 40 (zrN eR k_4 40 6), zzJ cy (rR 7) 40 (zrN eR k_4 40 7), zzI cy qmr 8 fMr] hP hD rfl
              clear hP hD
              obtain ⟨hP, hD⟩ := hPD
              refine lv_iconst (v := 1) hx hb dX6_row_90 (by decide) ?_
              exact endW (u := [zzO qm 5 [.ref qmh, .ref qmo, .ref qmz, .ref qmR, .ref qmv, .ref qmk, .ref qma, .ref qmt, .int (nI kZ), .ref qmr, .int (nI (T_nb tA)), .ref qmB, .int (nI (T_np tA)), .ref qmO, .ref qmK, .int iEn, .int iTk, .int (T_sd tA), ov uP, ov uU, .int (nI kAt), .int iTo, .int iFr, .long JFi, .int iFa, .ref qm3, .int iSt, .int iLv, .int iWs, vLa, .ref qmu, .ref qmy, .ref qmb, .ref qms, .int iOm], zzI cy qmh 8 (upd fMh k_4 1), zzI cy qmo 8 (upd fMo k_4 iB), zzI cy qmz 8 (upd fMz k_4 (nI k_15)), zzG cy 4 qmR rR, zzJ cy (rR 0) 40 (zrN eR k_4 40 0), zzJ cy (rR 1) 40 (zrN eR k_4 40 1), zzJ cy (rR 2) 40 (zrN eR k_4 40 2), zzJ cy (rR 3) 40 (zrN eR k_4 40 3), zzJ cy (rR 4) 40 (zrN eR k_4 40 4), zzJ cy (rR 5) 40 (zrN eR k_4 40 5), zzJ cy (rR 6) 40 (zrN eR k_4 40 6), zzJ cy (rR 7) 40 (zrN eR k_4 40 7), zzI cy qmr 8 fMr]) hx hb hr hlocks rfl (hP.sub [0, 1, 2, 3, 4, 5, 6, 7, 8, 9, 10, 11, 12, 13] rfl) (hD.sub [0, 1, 2, 3, 4, 5, 6, 7, 8, 9, 10, 11, 12, 13] (by decide +kernel) rfl) hS ⟨(upd fMh k_4 1), (upd fMo k_4 iB), (upd fMz k_4 (nI k_15)), (zrN eR k_4 40), fMr, rfl, Or.inr ⟨rfl, k_4, k_15, by omega, by omega, rfl, rfl, h_10, rfl, rfl, rfl, rfl⟩, trivial⟩ dX6_row_91
            · have hlt_30 : j_22 < 40 := lp_lt rfl (rfl : (40 : Int32) = nI 40) (by omega) (by omega) c_27
              refine lv_aload_n hx hb dX6_row_74 rfl (lv_at hl 1 rfl) ?_
              refine va_get (D := G) (ci := 5) (v := .ref qmR) (C := RX6) (T := TX6) (N := 35) hx hb hts iX_X6 hown hK hP 0 rfl rfl 3 (by decide) (hts _ m_t853) (fun _ h9 => h9) rfl dX6_row_75 ?_
              refine lv_iload_n hx hb dX6_row_78 rfl (lv_at hl 2 rfl) ?_
              refine va_alda hx hb hK hP 4 4 rfl rfl (in_shelf h_3) dX6_row_79 ?_
              refine lv_setv (v := .ref (rR k_4)) (g_ref (by omega)) ?_
              refine lv_iload hx hb dX6_row_80 (lv_at hl 0 rfl) ?_
              refine lv_lconst (v := 0) hx hb dX6_row_82 (by decide) ?_
              refine va_last hx hb hK hP hD hS (5 + k_4) 1 ((sg8 (n0 := 5) (f := (fun j => zzJ cy (rR j) 40 (eJ_23 j))) rfl rfl rfl rfl rfl rfl rfl rfl) k_4 (by omega)) rfl (vp_in_nI (by omega) (by omega)) dX6_row_83 (fun H locs => ?_)
              clear hP hD hS
              intro hP hD hS
              rw [nI_clamp (n := j_22) (by omega)] at hP hD
              have e8 := set8 (k := k_4) (ws := [zzO qm 5 [.ref qmh, .ref qmo, .ref qmz, .ref qmR, .ref qmv, .ref qmk, .ref qma, .ref qmt, .int (nI kZ), .ref qmr, .int (nI (T_nb tA)), .ref qmB, .int (nI (T_np tA)), .ref qmO, .ref qmK, .int iEn, .int iTk, .int (T_sd tA), ov uP, ov uU, .int (nI kAt), .int iTo, .int iFr, .long JFi, .int iFa, .ref qm3, .int iSt, .int iLv, .int iWs, vLa, .ref qmu, .ref qmy, .ref qmb, .ref qms, .int iOm], zzI cy qmh 8 (upd fMh k_4 1), zzI cy qmo 8 (upd fMo k_4 iB), zzI cy qmz 8 (upd fMz k_4 (nI k_15)), zzG cy 4 qmR rR, zzJ cy (rR 0) 40 (eJ_23 0), zzJ cy (rR 1) 40 (eJ_23 1), zzJ cy (rR 2) 40 (eJ_23 2), zzJ cy (rR 3) 40 (eJ_23 3), zzJ cy (rR 4) 40 (eJ_23 4), zzJ cy (rR 5) 40 (eJ_23 5), zzJ cy (rR 6) 40 (eJ_23 6), zzJ cy (rR 7) 40 (eJ_23 7), zzI cy qmr 8 fMr]) (ws' := [zzO qm 5 [.ref qmh, .ref qmo, .ref qmz, .ref qmR, .ref qmv, .ref qmk, .ref qma, .ref qmt, .int (nI kZ), .ref qmr, .int (nI (T_nb tA)), .ref qmB, .int (nI (T_np tA)), .ref qmO, .ref qmK, .int iEn, .int iTk, .int (T_sd tA), ov uP, ov uU, .int (nI kAt), .int iTo, .int iFr, .long JFi, .int iFa, .ref qm3, .int iSt, .int iLv, .int iWs, vLa, .ref qmu, .ref qmy, .ref qmb, .ref qms, .int iOm], zzI cy qmh 8 (upd fMh k_4 1), zzI cy qmo 8 (upd fMo k_4 iB), zzI cy qmz 8 (upd fMz k_4 (nI k_15)), zzG cy 4 qmR rR, zzJ cy (rR 0) 40 (updN eJ_23 k_4 j_22 0 0), zzJ cy (rR 1) 40 (updN eJ_23 k_4 j_22 0 1), zzJ cy (rR 2) 40 (updN eJ_23 k_4 j_22 0 2), zzJ cy (rR 3) 40 (updN eJ_23 k_4 j_22 0 3), zzJ cy (rR 4) 40 (updN eJ_23 k_4 j_22 0 4), zzJ cy (rR 5) 40 (updN eJ_23 k_4 j_22 0 5), zzJ cy (rR 6) 40 (updN eJ_23 k_4 j_22 0 6), zzJ cy (rR 7) 40 (updN eJ_23 k_4 j_22 0 7), zzI cy qmr 8 fMr]) (sg8 (n0 := 5) (f := (fun j => zzJ cy (rR j) 40 (eJ_23 j))) rfl rfl rfl rfl rfl rfl rfl rfl) (sg8 (n0 := 5) (f := (fun j => zzJ cy (rR j) 40 (updN eJ_23 k_4 j_22 0 j))) rfl rfl rfl rfl rfl rfl rfl rfl) rfl rfl (by omega) (congrArg (zzJ cy (rR k_4) 40) un_u) (fun j hj => congrArg (zzJ cy (rR j) 40) (un_n hj))
              rw [e8] at hP hD
              clear e8
              have hPD := pd_as [zzO qm 5 [.ref qmh, .ref qmo, .ref qmz, .ref qmR, .ref qmv, .ref qmk, .ref qma, .ref qmt, .int (nI kZ), .ref qmr, .int (nI (T_nb tA)), .ref qmB, .int (nI (T_np tA)), .ref qmO, .ref qmK, .int iEn, .int iTk, .int (T_sd tA), ov uP, ov uU, .int (nI kAt), .int iTo, .int iFr, .long JFi, .int iFa, .ref qm3, .int iSt, .int iLv, .int iWs, vLa, .ref qmu, .ref qmy, .ref qmb, .ref qms, .int iOm], zzI cy qmh 8 (upd fMh k_4 1), zzI cy qmo 8 (upd fMo k_4 iB), zzI cy qmz 8 (upd fMz k_4 (nI k_15)), zzG cy 4 qmR rR, zzJ cy (rR 0) 40 (updN eJ_23 k_4 j_22 0 0), zzJ cy (rR 1) 40 (updN eJ_23 k_4 j_22 0 1), zzJ cy (rR 2) 40 (updN eJ_23 k_4 j_22 0 2), zzJ cy (rR 3) 40 (updN eJ_23 k_4 j_22 0 3), zzJ cy (rR 4) 40 (updN eJ_23 k_4 j_22 0 4), zzJ cy (rR 5) 40 (updN eJ_23 k_4 j_22 0 5), zzJ cy (rR 6) 40 (updN eJ_23 k_4 j_22 0 6), zzJ cy (rR 7) 40 (updN eJ_23 k_4 j_22 0 7), zzI cy qmr 8 fMr] hP hD rfl
              clear hP hD
              obtain ⟨hP, hD⟩ := hPD
              refine lv_iinc (v := nI (j_22 + 1)) (lv' := [(4, .int (nI (j_22 + 1))), (0, .ref qm), (1, .int (nI k_4)), (2, .int iB), (3, .int (nI k_15))]) hx hb dX6_row_84 hl (k := 0) rfl (nI_1 _) (by decide) rfl (fun ls => ?_)
              clear hl
              intro hl
              refine lv_goto (tgt := 67) hx hb dX6_row_87 (by decide) ?_
              exact ih_21 (j_22 + 1) (updN eJ_23 k_4 j_22 0) (by omega) (by omega) (by rw [heJ_25]; rfl) _ _ _ hP hD hS (lv_sub hl [0, 1, 2, 3, 4] rfl)
        exact lp_19 ((40 - 0) + 1) 0 eR (Nat.lt_succ_self _) (Nat.zero_le _) rfl _ _ ls hP hD hS (lv_sub hl [0, 1, 2, 3, 4] rfl)
      · refine lv_if_ne (tgt := 43) hx hb dX6_row_33 (by decide) (fun h9 => absurd (by decide) h9) (fun _ => ?_)
        refine lv_aload_n hx hb dX6_row_36 rfl (lv_at hl 0 rfl) ?_
        refine lv_bipush (v := (-2)) hx hb dX6_row_37 (by decide) ?_
        refine cVi (As := [.int (-2)]) (rest := []) (b := qm) (q := (RX6, TX6, 35)) ⟨hx, hb, hml, hown, hts⟩ (c_X6_refuse2 l G cy (s.heap).size qm (.ref qmh) (.ref qmo) (.ref qmz) (.ref qmR) (.ref qmv) (.ref qmk) (.ref qma) (.ref qmt) (.int (nI kZ)) qmr tA qmB qmO qmK iEn iTk (ov uP) (ov uU) (.int (nI kAt)) (.int iTo) (.int iFr) (.long JFi) (.int iFa) (.ref qm3) (.int iSt) iLv iWs vLa (.ref qmu) (.ref qmy) (.ref qmb) (.ref qms) (.int iOm) fMr) L_X6_91 hN hP hD hS hA [0, 13] [false, true, true, true, true, true, true, true, true, true, true, true, true, false] rfl (by decide +kernel) rfl 0 5 rfl rfl rfl ⟨Nat.le_of_ble_eq_true rfl, Nat.le_of_ble_eq_true rfl⟩ hl.1 (Nat.le_of_ble_eq_true rfl) dX6_row_39 ⟨Nat.le_of_ble_eq_true rfl, Nat.le_of_ble_eq_true rfl⟩ (fun r_32 u_34 H locs h_33 => ?_)
        clear hP hD hS
        intro hP hD hS
        obtain ⟨fX_35, rfl, h_33⟩ := h_33
        have hPD := pd_as [zzI cy qmh 8 fMh, zzI cy qmo 8 fMo, zzI cy qmz 8 fMz, zzG cy 4 qmR rR, zzJ cy (rR 0) 40 (eR 0), zzJ cy (rR 1) 40 (eR 1), zzJ cy (rR 2) 40 (eR 2), zzJ cy (rR 3) 40 (eR 3), zzJ cy (rR 4) 40 (eR 4), zzJ cy (rR 5) 40 (eR 5), zzJ cy (rR 6) 40 (eR 6), zzJ cy (rR 7) 40 (eR 7), zzO qm 5 [.ref qmh, .ref qmo, .ref qmz, .ref qmR, .ref qmv, .ref qmk, .ref qma, .ref qmt, .int (nI kZ), .ref qmr, .int (nI (T_nb tA)), .ref qmB, .int (nI (T_np tA)), .ref qmO, .ref qmK, .int iEn, .int iTk, .int (T_sd tA), ov uP, ov uU, .int (nI kAt), .int iTo, .int iFr, .long JFi, .int iFa, .ref qm3, .int iSt, .int iLv, .int iWs, vLa, .ref qmu, .ref qmy, .ref qmb, .ref qms, .int iOm], zzI cy qmr 8 fX_35] hP hD rfl
        clear hP hD
        obtain ⟨hP, hD⟩ := hPD
        subst h_33
        exact endW (u := [zzO qm 5 [.ref qmh, .ref qmo, .ref qmz, .ref qmR, .ref qmv, .ref qmk, .ref qma, .ref qmt, .int (nI kZ), .ref qmr, .int (nI (T_nb tA)), .ref qmB, .int (nI (T_np tA)), .ref qmO, .ref qmK, .int iEn, .int iTk, .int (T_sd tA), ov uP, ov uU, .int (nI kAt), .int iTo, .int iFr, .long JFi, .int iFa, .ref qm3, .int iSt, .int iLv, .int iWs, vLa, .ref qmu, .ref qmy, .ref qmb, .ref qms, .int iOm], zzI cy qmh 8 fMh, zzI cy qmo 8 fMo, zzI cy qmz 8 fMz, zzG cy 4 qmR rR, zzJ cy (rR 0) 40 (eR 0), zzJ cy (rR 1) 40 (eR 1), zzJ cy (rR 2) 40 (eR 2), zzJ cy (rR 3) 40 (eR 3), zzJ cy (rR 4) 40 (eR 4), zzJ cy (rR 5) 40 (eR 5), zzJ cy (rR 6) 40 (eR 6), zzJ cy (rR 7) 40 (eR 7), zzI cy qmr 8 fX_35]) hx hb hr hlocks rfl (hP.sub [12, 0, 1, 2, 3, 4, 5, 6, 7, 8, 9, 10, 11, 13] rfl) (hD.sub [12, 0, 1, 2, 3, 4, 5, 6, 7, 8, 9, 10, 11, 13] (by decide +kernel) rfl) hS ⟨fMh, fMo, fMz, eR, fX_35, rfl, Or.inl ⟨rfl, (fun q => h_14 q.2.2), rfl, rfl, rfl, rfl⟩, trivial⟩ dX6_row_42
    · refine lv_if_eq (tgt := 36) hx hb dX6_row_21 (by decide) (fun _ => ?_) (fun h9 => absurd (by decide) h9)
      refine lv_aload_n hx hb dX6_row_36 rfl (lv_at hl 0 rfl) ?_
      refine lv_bipush (v := (-2)) hx hb dX6_row_37 (by decide) ?_
      refine cVi (As := [.int (-2)]) (rest := []) (b := qm) (q := (RX6, TX6, 35)) ⟨hx, hb, hml, hown, hts⟩ (c_X6_refuse2 l G cy (s.heap).size qm (.ref qmh) (.ref qmo) (.ref qmz) (.ref qmR) (.ref qmv) (.ref qmk) (.ref qma) (.ref qmt) (.int (nI kZ)) qmr tA qmB qmO qmK iEn iTk (ov uP) (ov uU) (.int (nI kAt)) (.int iTo) (.int iFr) (.long JFi) (.int iFa) (.ref qm3) (.int iSt) iLv iWs vLa (.ref qmu) (.ref qmy) (.ref qmb) (.ref qms) (.int iOm) fMr) L_X6_91 hN hP hD hS hA [0, 13] [false, true, true, true, true, true, true, true, true, true, true, true, true, false] rfl (by decide +kernel) rfl 0 5 rfl rfl rfl ⟨Nat.le_of_ble_eq_true rfl, Nat.le_of_ble_eq_true rfl⟩ hl.1 (Nat.le_of_ble_eq_true rfl) dX6_row_39 ⟨Nat.le_of_ble_eq_true rfl, Nat.le_of_ble_eq_true rfl⟩ (fun r_37 u_39 H locs h_38 => ?_)
      clear hP hD hS
      intro hP hD hS
      obtain ⟨fX_40, rfl, h_38⟩ := h_38
      have hPD := pd_as [zzI cy qmh 8 fMh, zzI cy qmo 8 fMo, zzI cy qmz 8 fMz, zzG cy 4 qmR rR, zzJ cy (rR 0) 40 (eR 0), zzJ cy (rR 1) 40 (eR 1), zzJ cy (rR 2) 40 (eR 2), zzJ cy (rR 3) 40 (eR 3), zzJ cy (rR 4) 40 (eR 4), zzJ cy (rR 5) 40 (eR 5), zzJ cy (rR 6) 40 (eR 6), zzJ cy (rR 7) 40 (eR 7), zzO qm 5 [.ref qmh, .ref qmo, .ref qmz, .ref qmR, .ref qmv, .ref qmk, .ref qma, .ref qmt, .int (nI kZ), .ref qmr, .int (nI (T_nb tA)), .ref qmB, .int (nI (T_np tA)), .ref qmO, .ref qmK, .int iEn, .int iTk, .int (T_sd tA), ov uP, ov uU, .int (nI kAt), .int iTo, .int iFr, .long JFi, .int iFa, .ref qm3, .int iSt, .int iLv, .int iWs, vLa, .ref qmu, .ref qmy, .ref qmb, .ref qms, .int iOm], zzI cy qmr 8 fX_40] hP hD rfl
      clear hP hD
      obtain ⟨hP, hD⟩ := hPD
      subst h_38
      exact endW (u := [zzO qm 5 [.ref qmh, .ref qmo, .ref qmz, .ref qmR, .ref qmv, .ref qmk, .ref qma, .ref qmt, .int (nI kZ), .ref qmr, .int (nI (T_nb tA)), .ref qmB, .int (nI (T_np tA)), .ref qmO, .ref qmK, .int iEn, .int iTk, .int (T_sd tA), ov uP, ov uU, .int (nI kAt), .int iTo, .int iFr, .long JFi, .int iFa, .ref qm3, .int iSt, .int iLv, .int iWs, vLa, .ref qmu, .ref qmy, .ref qmb, .ref qms, .int iOm], zzI cy qmh 8 fMh, zzI cy qmo 8 fMo, zzI cy qmz 8 fMz, zzG cy 4 qmR rR, zzJ cy (rR 0) 40 (eR 0), zzJ cy (rR 1) 40 (eR 1), zzJ cy (rR 2) 40 (eR 2), zzJ cy (rR 3) 40 (eR 3), zzJ cy (rR 4) 40 (eR 4), zzJ cy (rR 5) 40 (eR 5), zzJ cy (rR 6) 40 (eR 6), zzJ cy (rR 7) 40 (eR 7), zzI cy qmr 8 fX_40]) hx hb hr hlocks rfl (hP.sub [12, 0, 1, 2, 3, 4, 5, 6, 7, 8, 9, 10, 11, 13] rfl) (hD.sub [12, 0, 1, 2, 3, 4, 5, 6, 7, 8, 9, 10, 11, 13] (by decide +kernel) rfl) hS ⟨fMh, fMo, fMz, eR, fX_40, rfl, Or.inl ⟨rfl, (fun q => h_10 q.2.1), rfl, rfl, rfl, rfl⟩, trivial⟩ dX6_row_42
  · refine lv_if_eq (tgt := 36) hx hb dX6_row_9 (by decide) (fun _ => ?_) (fun h9 => absurd (by decide) h9)
    refine lv_aload_n hx hb dX6_row_36 rfl (lv_at hl 0 rfl) ?_
    refine lv_bipush (v := (-2)) hx hb dX6_row_37 (by decide) ?_
    refine cVi (As := [.int (-2)]) (rest := []) (b := qm) (q := (RX6, TX6, 35)) ⟨hx, hb, hml, hown, hts⟩ (c_X6_refuse2 l G cy (s.heap).size qm (.ref qmh) (.ref qmo) (.ref qmz) (.ref qmR) (.ref qmv) (.ref qmk) (.ref qma) (.ref qmt) (.int (nI kZ)) qmr tA qmB qmO qmK iEn iTk (ov uP) (ov uU) (.int (nI kAt)) (.int iTo) (.int iFr) (.long JFi) (.int iFa) (.ref qm3) (.int iSt) iLv iWs vLa (.ref qmu) (.ref qmy) (.ref qmb) (.ref qms) (.int iOm) fMr) L_X6_91 hN hP hD hS hA [0, 13] [false, true, true, true, true, true, true, true, true, true, true, true, true, false] rfl (by decide +kernel) rfl 0 5 rfl rfl rfl ⟨Nat.le_of_ble_eq_true rfl, Nat.le_of_ble_eq_true rfl⟩ hl.1 (Nat.le_of_ble_eq_true rfl) dX6_row_39 ⟨Nat.le_of_ble_eq_true rfl, Nat.le_of_ble_eq_true rfl⟩ (fun r_42 u_44 H locs h_43 => ?_)
    clear hP hD hS
    intro hP hD hS
    obtain ⟨fX_45, rfl, h_43⟩ := h_43
    have hPD := pd_as [zzI cy qmh 8 fMh, zzI cy qmo 8 fMo, zzI cy qmz 8 fMz, zzG cy 4 qmR rR, zzJ cy (rR 0) 40 (eR 0), zzJ cy (rR 1) 40 (eR 1), zzJ cy (rR 2) 40 (eR 2), zzJ cy (rR 3) 40 (eR 3), zzJ cy (rR 4) 40 (eR 4), zzJ cy (rR 5) 40 (eR 5), zzJ cy (rR 6) 40 (eR 6), zzJ cy (rR 7) 40 (eR 7), zzO qm 5 [.ref qmh, .ref qmo, .ref qmz, .ref qmR, .ref qmv, .ref qmk, .ref qma, .ref qmt, .int (nI kZ), .ref qmr, .int (nI (T_nb tA)), .ref qmB, .int (nI (T_np tA)), .ref qmO, .ref qmK, .int iEn, .int iTk, .int (T_sd tA), ov uP, ov uU, .int (nI kAt), .int iTo, .int iFr, .long JFi, .int iFa, .ref qm3, .int iSt, .int iLv, .int iWs, vLa, .ref qmu, .ref qmy, .ref qmb, .ref qms, .int iOm], zzI cy qmr 8 fX_45] hP hD rfl
    clear hP hD
    obtain ⟨hP, hD⟩ := hPD
    subst h_43
    exact endW (u := [zzO qm 5 [.ref qmh, .ref qmo, .ref qmz, .ref qmR, .ref qmv, .ref qmk, .ref qma, .ref qmt, .int (nI kZ), .ref qmr, .int (nI (T_nb tA)), .ref qmB, .int (nI (T_np tA)), .ref qmO, .ref qmK, .int iEn, .int iTk, .int (T_sd tA), ov uP, ov uU, .int (nI kAt), .int iTo, .int iFr, .long JFi, .int iFa, .ref qm3, .int iSt, .int iLv, .int iWs, vLa, .ref qmu, .ref qmy, .ref qmb, .ref qms, .int iOm], zzI cy qmh 8 fMh, zzI cy qmo 8 fMo, zzI cy qmz 8 fMz, zzG cy 4 qmR rR, zzJ cy (rR 0) 40 (eR 0), zzJ cy (rR 1) 40 (eR 1), zzJ cy (rR 2) 40 (eR 2), zzJ cy (rR 3) 40 (eR 3), zzJ cy (rR 4) 40 (eR 4), zzJ cy (rR 5) 40 (eR 5), zzJ cy (rR 6) 40 (eR 6), zzJ cy (rR 7) 40 (eR 7), zzI cy qmr 8 fX_45]) hx hb hr hlocks rfl (hP.sub [12, 0, 1, 2, 3, 4, 5, 6, 7, 8, 9, 10, 11, 13] rfl) (hD.sub [12, 0, 1, 2, 3, 4, 5, 6, 7, 8, 9, 10, 11, 13] (by decide +kernel) rfl) hS ⟨fMh, fMo, fMz, eR, fX_45, rfl, Or.inl ⟨rfl, (fun q => no_of7 h_3 q.1), rfl, rfl, rfl, rfl⟩, trivial⟩ dX6_row_42
set_option maxHeartbeats 4000000 in
set_option maxRecDepth 100000 in
theorem p_X6_set (l : Launch) (G : va_G) (cy : Nat → ClassId) (sz : Nat) (qm : Nat) (qmh : Nat) (qmo : Nat) (qmz : Nat) (qmR : Nat) (qmv : Nat) (qmk : Nat) (qma : Nat) (qmt : Nat) (kZ : Nat) (qmr : Nat) (tA : TA) (qmB : Nat) (qmO : Nat) (qmK : Nat) (iEn : Int32) (iTk : Int32) (uP : UM) (uU : UM) (kAt : Nat) (iTo : Int32) (iFr : Int32) (JFi : Int64) (iFa : Int32) (qm3 : Nat) (iSt : Int32) (iLv : Int32) (iWs : Int32) (vLa : Value) (qmu : Nat) (qmy : Nat) (qmb : Nat) (qms : Nat) (iOm : Int32) (fMh : Nat → Int32) (fMo : Nat → Int32) (fMz : Nat → Int32) (rR : Nat → Nat) (eR : Nat → Nat → Int64) (fMr : Nat → Int32) (iA : Int32) (iB : Int32) (J1 : Int64)  (hSz : ∀ s, s < 8 → ∃ n : Nat, n ≤ 40 ∧ fMz s = nI n) : MW l yX6_set cX6_set 6 (some .int) 16 0 0 G cy [zzO qm 5 [.ref qmh, .ref qmo, .ref qmz, .ref qmR, .ref qmv, .ref qmk, .ref qma, .ref qmt, .int (nI kZ), .ref qmr, .int (nI (T_nb tA)), .ref qmB, .int (nI (T_np tA)), .ref qmO, .ref qmK, .int iEn, .int iTk, .int (T_sd tA), ov uP, ov uU, .int (nI kAt), .int iTo, .int iFr, .long JFi, .int iFa, .ref qm3, .int iSt, .int iLv, .int iWs, vLa, .ref qmu, .ref qmy, .ref qmb, .ref qms, .int iOm], zzI cy qmh 8 fMh, zzI cy qmo 8 fMo, zzI cy qmz 8 fMz, zzG cy 4 qmR rR, zzJ cy (rR 0) 40 (eR 0), zzJ cy (rR 1) 40 (eR 1), zzJ cy (rR 2) 40 (eR 2), zzJ cy (rR 3) 40 (eR 3), zzJ cy (rR 4) 40 (eR 4), zzJ cy (rR 5) 40 (eR 5), zzJ cy (rR 6) 40 (eR 6), zzJ cy (rR 7) 40 (eR 7), zzI cy qmr 8 fMr] sz [.ref qm, .int iA, .int iB, .long J1] (Wi G (fun r u => ∃ (eN : Nat → Nat → Int64) (fNr : Nat → Int32), u = [zzO qm 5 [.ref qmh, .ref qmo, .ref qmz, .ref qmR, .ref qmv, .ref qmk, .ref qma, .ref qmt, .int (nI kZ), .ref qmr, .int (nI (T_nb tA)), .ref qmB, .int (nI (T_np tA)), .ref qmO, .ref qmK, .int iEn, .int iTk, .int (T_sd tA), ov uP, ov uU, .int (nI kAt), .int iTo, .int iFr, .long JFi, .int iFa, .ref qm3, .int iSt, .int iLv, .int iWs, vLa, .ref qmu, .ref qmy, .ref qmb, .ref qms, .int iOm], zzI cy qmh 8 fMh, zzI cy qmo 8 fMo, zzI cy qmz 8 fMz, zzG cy 4 qmR rR, zzJ cy (rR 0) 40 (eN 0), zzJ cy (rR 1) 40 (eN 1), zzJ cy (rR 2) 40 (eN 2), zzJ cy (rR 3) 40 (eN 3), zzJ cy (rR 4) 40 (eN 4), zzJ cy (rR 5) 40 (eN 5), zzJ cy (rR 6) 40 (eN 6), zzJ cy (rR 7) 40 (eN 7), zzI cy qmr 8 fNr] ∧ (PMset fMh fMo fMz eR iA iB J1 r eN) ∧ (True))) := by
  refine enW RX6 (by decide) rfl (Nat.le_of_ble_eq_true rfl) (fun p e s m below meth c ls A hx hb hml hown hts hr hlocks hP hN hl hin hD hA hS => ?_)
  have hin : meth.name = _ := hin
  have hK := hN.1
  replace hl : lv_has ls 6 [(0, .ref qm), (1, .int iA), (2, .int iB), (3, .long J1)] := hl
  refine lv_aload_n hx hb dX6_set_0 rfl (lv_at hl 0 rfl) ?_
  refine lv_iload_n hx hb dX6_set_1 rfl (lv_at hl 1 rfl) ?_
  refine cVi (As := [.int iA]) (rest := []) (b := qm) (q := (RX6, TX6, 35)) ⟨hx, hb, hml, hown, hts⟩ (c_X6_noRow l G cy (s.heap).size qm qmh (.ref qmo) (.ref qmz) (.ref qmR) (.ref qmv) (.ref qmk) (.ref qma) (.ref qmt) (.int (nI kZ)) qmr tA qmB qmO qmK iEn iTk (ov uP) (ov uU) (.int (nI kAt)) (.int iTo) (.int iFr) (.long JFi) (.int iFa) (.ref qm3) (.int iSt) iLv iWs vLa (.ref qmu) (.ref qmy) (.ref qmb) (.ref qms) (.int iOm) fMh fMr iA) L_X6_95 hN hP hD hS hA [0, 1, 13] [false, false, true, true, true, true, true, true, true, true, true, true, true, false] rfl (by decide +kernel) rfl 0 5 rfl rfl rfl ⟨Nat.le_of_ble_eq_true rfl, Nat.le_of_ble_eq_true rfl⟩ hl.1 (Nat.le_of_ble_eq_true rfl) dX6_set_2 ⟨Nat.le_of_ble_eq_true rfl, Nat.le_of_ble_eq_true rfl⟩ (fun r_1 u_3 H locs h_2 => ?_)
  clear hP hD hS
  intro hP hD hS
  obtain ⟨fX_4, rfl, h_2⟩ := h_2
  have hPD := pd_as [zzI cy qmo 8 fMo, zzI cy qmz 8 fMz, zzG cy 4 qmR rR, zzJ cy (rR 0) 40 (eR 0), zzJ cy (rR 1) 40 (eR 1), zzJ cy (rR 2) 40 (eR 2), zzJ cy (rR 3) 40 (eR 3), zzJ cy (rR 4) 40 (eR 4), zzJ cy (rR 5) 40 (eR 5), zzJ cy (rR 6) 40 (eR 6), zzJ cy (rR 7) 40 (eR 7), zzO qm 5 [.ref qmh, .ref qmo, .ref qmz, .ref qmR, .ref qmv, .ref qmk, .ref qma, .ref qmt, .int (nI kZ), .ref qmr, .int (nI (T_nb tA)), .ref qmB, .int (nI (T_np tA)), .ref qmO, .ref qmK, .int iEn, .int iTk, .int (T_sd tA), ov uP, ov uU, .int (nI kAt), .int iTo, .int iFr, .long JFi, .int iFa, .ref qm3, .int iSt, .int iLv, .int iWs, vLa, .ref qmu, .ref qmy, .ref qmb, .ref qms, .int iOm], zzI cy qmh 8 fMh, zzI cy qmr 8 fX_4] hP hD rfl
  clear hP hD
  obtain ⟨hP, hD⟩ := hPD
  rcases h_2 with ⟨rfl, h_5⟩ | ⟨rfl, h_5⟩ | ⟨rfl, h_5⟩ | ⟨rfl, h_5⟩
  · refine lv_istore (lv' := [(5, .int (-2)), (0, .ref qm), (1, .int iA), (2, .int iB), (3, .long J1)]) hx hb dX6_set_5 hl (by decide) rfl (fun ls => ?_)
    clear hl
    intro hl
    refine lv_iload hx hb dX6_set_7 (lv_at hl 0 rfl) ?_
    refine lv_if_eq (tgt := 15) hx hb dX6_set_9 (by decide) (fun h9 => absurd h9 (by decide)) (fun _ => ?_)
    refine lv_iload hx hb dX6_set_12 (lv_at hl 0 rfl) ?_
    exact endW (u := [zzO qm 5 [.ref qmh, .ref qmo, .ref qmz, .ref qmR, .ref qmv, .ref qmk, .ref qma, .ref qmt, .int (nI kZ), .ref qmr, .int (nI (T_nb tA)), .ref qmB, .int (nI (T_np tA)), .ref qmO, .ref qmK, .int iEn, .int iTk, .int (T_sd tA), ov uP, ov uU, .int (nI kAt), .int iTo, .int iFr, .long JFi, .int iFa, .ref qm3, .int iSt, .int iLv, .int iWs, vLa, .ref qmu, .ref qmy, .ref qmb, .ref qms, .int iOm], zzI cy qmh 8 fMh, zzI cy qmo 8 fMo, zzI cy qmz 8 fMz, zzG cy 4 qmR rR, zzJ cy (rR 0) 40 (eR 0), zzJ cy (rR 1) 40 (eR 1), zzJ cy (rR 2) 40 (eR 2), zzJ cy (rR 3) 40 (eR 3), zzJ cy (rR 4) 40 (eR 4), zzJ cy (rR 5) 40 (eR 5), zzJ cy (rR 6) 40 (eR 6), zzJ cy (rR 7) 40 (eR 7), zzI cy qmr 8 fX_4]) hx hb hr hlocks rfl (hP.sub [11, 12, 0, 1, 2, 3, 4, 5, 6, 7, 8, 9, 10, 13] rfl) (hD.sub [11, 12, 0, 1, 2, 3, 4, 5, 6, 7, 8, 9, 10, 13] (by decide +kernel) rfl) hS ⟨eR, fX_4, rfl, Or.inl ⟨rfl, Or.inl h_5, rfl⟩, trivial⟩ dX6_set_14
  · obtain ⟨k_7, hk_8, rfl, h_9⟩ := h_5
    refine lv_istore (lv' := [(5, .int (-3)), (0, .ref qm), (1, .int (nI k_7)), (2, .int iB), (3, .long J1)]) hx hb dX6_set_5 hl (by decide) rfl (fun ls => ?_)
    clear hl
    intro hl
    refine lv_iload hx hb dX6_set_7 (lv_at hl 0 rfl) ?_
    refine lv_if_eq (tgt := 15) hx hb dX6_set_9 (by decide) (fun h9 => absurd h9 (by decide)) (fun _ => ?_)
    refine lv_iload hx hb dX6_set_12 (lv_at hl 0 rfl) ?_
    exact endW (u := [zzO qm 5 [.ref qmh, .ref qmo, .ref qmz, .ref qmR, .ref qmv, .ref qmk, .ref qma, .ref qmt, .int (nI kZ), .ref qmr, .int (nI (T_nb tA)), .ref qmB, .int (nI (T_np tA)), .ref qmO, .ref qmK, .int iEn, .int iTk, .int (T_sd tA), ov uP, ov uU, .int (nI kAt), .int iTo, .int iFr, .long JFi, .int iFa, .ref qm3, .int iSt, .int iLv, .int iWs, vLa, .ref qmu, .ref qmy, .ref qmb, .ref qms, .int iOm], zzI cy qmh 8 fMh, zzI cy qmo 8 fMo, zzI cy qmz 8 fMz, zzG cy 4 qmR rR, zzJ cy (rR 0) 40 (eR 0), zzJ cy (rR 1) 40 (eR 1), zzJ cy (rR 2) 40 (eR 2), zzJ cy (rR 3) 40 (eR 3), zzJ cy (rR 4) 40 (eR 4), zzJ cy (rR 5) 40 (eR 5), zzJ cy (rR 6) 40 (eR 6), zzJ cy (rR 7) 40 (eR 7), zzI cy qmr 8 fX_4]) hx hb hr hlocks rfl (hP.sub [11, 12, 0, 1, 2, 3, 4, 5, 6, 7, 8, 9, 10, 13] rfl) (hD.sub [11, 12, 0, 1, 2, 3, 4, 5, 6, 7, 8, 9, 10, 13] (by decide +kernel) rfl) hS ⟨eR, fX_4, rfl, Or.inr (Or.inl ⟨rfl, ⟨k_7, hk_8, rfl, h_9⟩, rfl⟩), trivial⟩ dX6_set_14
  · obtain ⟨k_11, hk_12, rfl, h_13, h_14⟩ := h_5
    refine lv_istore (lv' := [(5, .int (-4)), (0, .ref qm), (1, .int (nI k_11)), (2, .int iB), (3, .long J1)]) hx hb dX6_set_5 hl (by decide) rfl (fun ls => ?_)
    clear hl
    intro hl
    refine lv_iload hx hb dX6_set_7 (lv_at hl 0 rfl) ?_
    refine lv_if_eq (tgt := 15) hx hb dX6_set_9 (by decide) (fun h9 => absurd h9 (by decide)) (fun _ => ?_)
    refine lv_iload hx hb dX6_set_12 (lv_at hl 0 rfl) ?_
    exact endW (u := [zzO qm 5 [.ref qmh, .ref qmo, .ref qmz, .ref qmR, .ref qmv, .ref qmk, .ref qma, .ref qmt, .int (nI kZ), .ref qmr, .int (nI (T_nb tA)), .ref qmB, .int (nI (T_np tA)), .ref qmO, .ref qmK, .int iEn, .int iTk, .int (T_sd tA), ov uP, ov uU, .int (nI kAt), .int iTo, .int iFr, .long JFi, .int iFa, .ref qm3, .int iSt, .int iLv, .int iWs, vLa, .ref qmu, .ref qmy, .ref qmb, .ref qms, .int iOm], zzI cy qmh 8 fMh, zzI cy qmo 8 fMo, zzI cy qmz 8 fMz, zzG cy 4 qmR rR, zzJ cy (rR 0) 40 (eR 0), zzJ cy (rR 1) 40 (eR 1), zzJ cy (rR 2) 40 (eR 2), zzJ cy (rR 3) 40 (eR 3), zzJ cy (rR 4) 40 (eR 4), zzJ cy (rR 5) 40 (eR 5), zzJ cy (rR 6) 40 (eR 6), zzJ cy (rR 7) 40 (eR 7), zzI cy qmr 8 fX_4]) hx hb hr hlocks rfl (hP.sub [11, 12, 0, 1, 2, 3, 4, 5, 6, 7, 8, 9, 10, 13] rfl) (hD.sub [11, 12, 0, 1, 2, 3, 4, 5, 6, 7, 8, 9, 10, 13] (by decide +kernel) rfl) hS ⟨eR, fX_4, rfl, Or.inr (Or.inr (Or.inl ⟨rfl, ⟨k_11, hk_12, rfl, h_13, h_14⟩, rfl⟩)), trivial⟩ dX6_set_14
  · obtain ⟨k_16, hk_17, rfl, h_18, h_19⟩ := h_5
    refine lv_istore (lv' := [(5, .int 0), (0, .ref qm), (1, .int (nI k_16)), (2, .int iB), (3, .long J1)]) hx hb dX6_set_5 hl (by decide) rfl (fun ls => ?_)
    clear hl
    intro hl
    refine lv_iload hx hb dX6_set_7 (lv_at hl 0 rfl) ?_
    refine lv_if_eq (tgt := 15) hx hb dX6_set_9 (by decide) (fun _ => ?_) (fun h9 => absurd (by decide) h9)
    refine lv_iload_n hx hb dX6_set_15 rfl (lv_at hl 3 rfl) ?_
    refine lv_i2l (v := iB.toInt64) hx hb dX6_set_16 rfl ?_
    refine lv_lconst (v := 0) hx hb dX6_set_17 (by decide) ?_
    refine lv_aload_n hx hb dX6_set_18 rfl (lv_at hl 1 rfl) ?_
    refine va_get (D := G) (ci := 5) (v := .ref qmz) (C := RX6) (T := TX6) (N := 35) hx hb hts iX_X6 hown hK hP 11 rfl rfl 2 (by decide) (hts _ m_t852) (fun _ h9 => h9) rfl dX6_set_19 ?_
    refine lv_iload_n hx hb dX6_set_22 rfl (lv_at hl 2 rfl) ?_
    refine va_iald hx hb hK hP 1 0 rfl rfl (in8 (by omega)) dX6_set_23 ?_
    refine lv_seti (v := fMz k_16) (congrArg fMz (cl8 (by omega))) ?_
    refine lv_iconst (v := 1) hx hb dX6_set_24 (by decide) ?_
    refine lv_isub hx hb dX6_set_25 ?_
    refine lv_i2l (v := ((fMz k_16) - 1).toInt64) hx hb dX6_set_26 rfl ?_
    refine kRi (rS (As := [.long iB.toInt64, .long 0, .long (((fMz k_16) - 1).toInt64)]) (rest := []) ⟨hx, hb, hml, hown, hts⟩ (c_X6_in l G cy iB.toInt64 0 (((fMz k_16) - 1).toInt64)) L_X6_74 (preRS hN hP [] rfl) rfl ⟨Nat.le_of_ble_eq_true rfl, Nat.le_of_ble_eq_true rfl⟩ hl.1 (Nat.le_of_ble_eq_true rfl) dX6_set_27 ⟨Nat.le_of_ble_eq_true rfl, Nat.le_of_ble_eq_true rfl⟩) (fun r_21 h_22 => ?_)
    rcases h_22 with ⟨rfl, h_23⟩ | ⟨rfl, h_23⟩
    · refine lv_if_ne (tgt := 40) hx hb dX6_set_30 (by decide) (fun _ => ?_) (fun h9 => absurd h9 (by decide))
      obtain ⟨n_25, hn_26, en_27⟩ := hSz k_16 hk_17
      obtain ⟨k_28, hk_29, rfl⟩ := sz_in en_27 hn_26 h_23
      refine lv_aload_n hx hb dX6_set_40 rfl (lv_at hl 1 rfl) ?_
      refine va_get (D := G) (ci := 5) (v := .ref qmR) (C := RX6) (T := TX6) (N := 35) hx hb hts iX_X6 hown hK hP 11 rfl rfl 3 (by decide) (hts _ m_t853) (fun _ h9 => h9) rfl dX6_set_41 ?_
      refine lv_iload_n hx hb dX6_set_44 rfl (lv_at hl 2 rfl) ?_
      refine va_alda hx hb hK hP 2 4 rfl rfl (in8 (by omega)) dX6_set_45 ?_
      refine lv_setv (v := .ref (rR k_16)) (g_ref (by omega)) ?_
      refine lv_iload_n hx hb dX6_set_46 rfl (lv_at hl 3 rfl) ?_
      refine lv_aload_n hx hb dX6_set_47 rfl (lv_at hl 1 rfl) ?_
      refine va_get (D := G) (ci := 5) (v := .ref qmo) (C := RX6) (T := TX6) (N := 35) hx hb hts iX_X6 hown hK hP 11 rfl rfl 1 (by decide) (hts _ m_t851) (fun _ h9 => h9) rfl dX6_set_48 ?_
      refine lv_iload_n hx hb dX6_set_51 rfl (lv_at hl 2 rfl) ?_
      refine va_iald hx hb hK hP 0 0 rfl rfl (in8 (by omega)) dX6_set_52 ?_
      refine lv_seti (v := fMo k_16) (congrArg fMo (cl8 (by omega))) ?_
      refine lv_lload_n hx hb dX6_set_53 rfl (lv_at hl 4 rfl) ?_
      refine kRl (rS (As := [.int (fMo k_16), .long J1]) (rest := [.int (nI k_28), .ref (rR k_16)]) ⟨hx, hb, hml, hown, hts⟩ (c_X6_fit l G cy (fMo k_16) J1) L_X6_98 (preRS hN hP [] rfl) rfl ⟨Nat.le_of_ble_eq_true rfl, Nat.le_of_ble_eq_true rfl⟩ hl.1 (Nat.le_of_ble_eq_true rfl) dX6_set_54 ⟨Nat.le_of_ble_eq_true rfl, Nat.le_of_ble_eq_true rfl⟩) (fun r_30 h_31 => ?_)
      subst h_31
      refine va_last hx hb hK hP hD hS (3 + k_16) 1 ((sg8 (n0 := 3) (f := (fun j => zzJ cy (rR j) 40 (eR j))) rfl rfl rfl rfl rfl rfl rfl rfl) k_16 (by omega)) rfl (vp_in_nI (by omega) (by omega)) dX6_set_57 (fun H locs => ?_)
      clear hP hD hS
      intro hP hD hS
      rw [nI_clamp (n := k_28) (by omega)] at hP hD
      have e8 := set8 (k := k_16) (ws := [zzI cy qmo 8 fMo, zzI cy qmz 8 fMz, zzG cy 4 qmR rR, zzJ cy (rR 0) 40 (eR 0), zzJ cy (rR 1) 40 (eR 1), zzJ cy (rR 2) 40 (eR 2), zzJ cy (rR 3) 40 (eR 3), zzJ cy (rR 4) 40 (eR 4), zzJ cy (rR 5) 40 (eR 5), zzJ cy (rR 6) 40 (eR 6), zzJ cy (rR 7) 40 (eR 7), zzO qm 5 [.ref qmh, .ref qmo, .ref qmz, .ref qmR, .ref qmv, .ref qmk, .ref qma, .ref qmt, .int (nI kZ), .ref qmr, .int (nI (T_nb tA)), .ref qmB, .int (nI (T_np tA)), .ref qmO, .ref qmK, .int iEn, .int iTk, .int (T_sd tA), ov uP, ov uU, .int (nI kAt), .int iTo, .int iFr, .long JFi, .int iFa, .ref qm3, .int iSt, .int iLv, .int iWs, vLa, .ref qmu, .ref qmy, .ref qmb, .ref qms, .int iOm], zzI cy qmh 8 fMh, zzI cy qmr 8 fX_4]) (ws' := [zzI cy qmo 8 fMo, zzI cy qmz 8 fMz, zzG cy 4 qmR rR, zzJ cy (rR 0) 40 (updN eR k_16 k_28 (zft (fMo k_16) J1) 0), zzJ cy (rR 1) 40 (updN eR k_16 k_28 (zft (fMo k_16) J1) 1), zzJ cy (rR 2) 40 (updN eR k_16 k_28 (zft (fMo k_16) J1) 2), zzJ cy (rR 3) 40 (updN eR k_16 k_28 (zft (fMo k_16) J1) 3), zzJ cy (rR 4) 40 (updN eR k_16 k_28 (zft (fMo k_16) J1) 4), zzJ cy (rR 5) 40 (updN eR k_16 k_28 (zft (fMo k_16) J1) 5), zzJ cy (rR 6) 40 (updN eR k_16 k_28 (zft (fMo k_16) J1) 6), zzJ cy (rR 7) 40 (updN eR k_16 k_28 (zft (fMo k_16) J1) 7), zzO qm 5 [.ref qmh, .ref qmo, .ref qmz, .ref qmR, .ref qmv, .ref qmk, .ref qma, .ref qmt, .int (nI kZ), .ref qmr, .int (nI (T_nb tA)), .ref qmB, .int (nI (T_np tA)), .ref qmO, .ref qmK, .int iEn, .int iTk, .int (T_sd tA), ov uP, ov uU, .int (nI kAt), .int iTo, .int iFr, .long JFi, .int iFa, .ref qm3, .int iSt, .int iLv, .int iWs, vLa, .ref qmu, .ref qmy, .ref qmb, .ref qms, .int iOm], zzI cy qmh 8 fMh, zzI cy qmr 8 fX_4]) (sg8 (n0 := 3) (f := (fun j => zzJ cy (rR j) 40 (eR j))) rfl rfl rfl rfl rfl rfl rfl rfl) (sg8 (n0 := 3) (f := (fun j => zzJ cy (rR j) 40 (updN eR k_16 k_28 (zft (fMo k_16) J1) j))) rfl rfl rfl rfl rfl rfl rfl rfl) rfl rfl (by omega) (congrArg (zzJ cy (rR k_16) 40) un_u) (fun j hj => congrArg (zzJ cy (rR j) 40) (un_n hj))
      rw [e8] at hP hD
      clear e8
      have hPD := pd_as [zzI cy qmo 8 fMo, zzI cy qmz 8 fMz, zzG cy 4 qmR rR, zzJ cy (rR 0) 40 (updN eR k_16 k_28 (zft (fMo k_16) J1) 0), zzJ cy (rR 1) 40 (updN eR k_16 k_28 (zft (fMo k_16) J1) 1), zzJ cy (rR 2) 40 (updN eR k_16 k_28 (zft (fMo k_16) J1) 2), zzJ cy (rR 3) 40 (updN eR k_16 k_28 (zft (fMo k_16) J1) 3), zzJ cy (rR 4) 40 (updN eR k_16 k_28 (zft (fMo k_16) J1) 4), zzJ cy (rR 5) 40 (updN eR k_16 k_28 (zft (fMo k_16) J1) 5), zzJ cy (rR 6) 40 (updN eR k_16 k_28 (zft (fMo k_16) J1) 6), zzJ cy (rR 7) 40 (updN eR k_16 k_28 (zft (fMo k_16) J1) 7), zzO qm 5 [.ref qmh, .ref qmo, .ref qmz, .ref qmR, .ref qmv, .ref qmk, .ref qma, .ref qmt, .int (nI kZ), .ref qmr, .int (nI (T_nb tA)), .ref qmB, .int (nI (T_np tA)), .ref qmO, .ref qmK, .int iEn, .int iTk, .int (T_sd tA), ov uP, ov uU, .int (nI kAt), .int iTo, .int iFr, .long JFi, .int iFa, .ref qm3, .int iSt, .int iLv, .int iWs, vLa, .ref qmu, .ref qmy, .ref qmb, .ref qms, .int iOm], zzI cy qmh 8 fMh, zzI cy qmr 8 fX_4] hP hD rfl
      clear hP hD
      obtain ⟨hP, hD⟩ := hPD
      refine lv_iconst (v := 1) hx hb dX6_set_58 (by decide) ?_
      exact endW (u := [zzO qm 5 [.ref qmh, .ref qmo, .ref qmz, .ref qmR, .ref qmv, .ref qmk, .ref qma, .ref qmt, .int (nI kZ), .ref qmr, .int (nI (T_nb tA)), .ref qmB, .int (nI (T_np tA)), .ref qmO, .ref qmK, .int iEn, .int iTk, .int (T_sd tA), ov uP, ov uU, .int (nI kAt), .int iTo, .int iFr, .long JFi, .int iFa, .ref qm3, .int iSt, .int iLv, .int iWs, vLa, .ref qmu, .ref qmy, .ref qmb, .ref qms, .int iOm], zzI cy qmh 8 fMh, zzI cy qmo 8 fMo, zzI cy qmz 8 fMz, zzG cy 4 qmR rR, zzJ cy (rR 0) 40 (updN eR k_16 k_28 (zft (fMo k_16) J1) 0), zzJ cy (rR 1) 40 (updN eR k_16 k_28 (zft (fMo k_16) J1) 1), zzJ cy (rR 2) 40 (updN eR k_16 k_28 (zft (fMo k_16) J1) 2), zzJ cy (rR 3) 40 (updN eR k_16 k_28 (zft (fMo k_16) J1) 3), zzJ cy (rR 4) 40 (updN eR k_16 k_28 (zft (fMo k_16) J1) 4), zzJ cy (rR 5) 40 (updN eR k_16 k_28 (zft (fMo k_16) J1) 5), zzJ cy (rR 6) 40 (updN eR k_16 k_28 (zft (fMo k_16) J1) 6), zzJ cy (rR 7) 40 (updN eR k_16 k_28 (zft (fMo k_16) J1) 7), zzI cy qmr 8 fX_4]) hx hb hr hlocks rfl (hP.sub [11, 12, 0, 1, 2, 3, 4, 5, 6, 7, 8, 9, 10, 13] rfl) (hD.sub [11, 12, 0, 1, 2, 3, 4, 5, 6, 7, 8, 9, 10, 13] (by decide +kernel) rfl) hS ⟨(updN eR k_16 k_28 (zft (fMo k_16) J1)), fX_4, rfl, Or.inr (Or.inr (Or.inr ⟨rfl, k_16, k_28, hk_17, rfl, h_18, h_19, by omega, rfl, h_23, rfl⟩)), trivial⟩ dX6_set_59
    · refine lv_if_ne (tgt := 40) hx hb dX6_set_30 (by decide) (fun h9 => absurd (by decide) h9) (fun _ => ?_)
      refine lv_aload_n hx hb dX6_set_33 rfl (lv_at hl 1 rfl) ?_
      refine lv_bipush (v := (-2)) hx hb dX6_set_34 (by decide) ?_
      refine cVi (As := [.int (-2)]) (rest := []) (b := qm) (q := (RX6, TX6, 35)) ⟨hx, hb, hml, hown, hts⟩ (c_X6_refuse2 l G cy (H).size qm (.ref qmh) (.ref qmo) (.ref qmz) (.ref qmR) (.ref qmv) (.ref qmk) (.ref qma) (.ref qmt) (.int (nI kZ)) qmr tA qmB qmO qmK iEn iTk (ov uP) (ov uU) (.int (nI kAt)) (.int iTo) (.int iFr) (.long JFi) (.int iFa) (.ref qm3) (.int iSt) iLv iWs vLa (.ref qmu) (.ref qmy) (.ref qmb) (.ref qms) (.int iOm) fX_4) L_X6_91 hN hP hD hS hA [11, 13] [true, true, true, true, true, true, true, true, true, true, true, false, true, false] rfl (by decide +kernel) rfl 11 5 rfl rfl rfl ⟨Nat.le_of_ble_eq_true rfl, Nat.le_of_ble_eq_true rfl⟩ hl.1 (Nat.le_of_ble_eq_true rfl) dX6_set_36 ⟨Nat.le_of_ble_eq_true rfl, Nat.le_of_ble_eq_true rfl⟩ (fun r_33 u_35 H locs h_34 => ?_)
      clear hP hD hS
      intro hP hD hS
      obtain ⟨fX_36, rfl, h_34⟩ := h_34
      have hPD := pd_as [zzI cy qmo 8 fMo, zzI cy qmz 8 fMz, zzG cy 4 qmR rR, zzJ cy (rR 0) 40 (eR 0), zzJ cy (rR 1) 40 (eR 1), zzJ cy (rR 2) 40 (eR 2), zzJ cy (rR 3) 40 (eR 3), zzJ cy (rR 4) 40 (eR 4), zzJ cy (rR 5) 40 (eR 5), zzJ cy (rR 6) 40 (eR 6), zzJ cy (rR 7) 40 (eR 7), zzI cy qmh 8 fMh, zzO qm 5 [.ref qmh, .ref qmo, .ref qmz, .ref qmR, .ref qmv, .ref qmk, .ref qma, .ref qmt, .int (nI kZ), .ref qmr, .int (nI (T_nb tA)), .ref qmB, .int (nI (T_np tA)), .ref qmO, .ref qmK, .int iEn, .int iTk, .int (T_sd tA), ov uP, ov uU, .int (nI kAt), .int iTo, .int iFr, .long JFi, .int iFa, .ref qm3, .int iSt, .int iLv, .int iWs, vLa, .ref qmu, .ref qmy, .ref qmb, .ref qms, .int iOm], zzI cy qmr 8 fX_36] hP hD rfl
      clear hP hD
      obtain ⟨hP, hD⟩ := hPD
      subst h_34
      exact endW (u := [zzO qm 5 [.ref qmh, .ref qmo, .ref qmz, .ref qmR, .ref qmv, .ref qmk, .ref qma, .ref qmt, .int (nI kZ), .ref qmr, .int (nI (T_nb tA)), .ref qmB, .int (nI (T_np tA)), .ref qmO, .ref qmK, .int iEn, .int iTk, .int (T_sd tA), ov uP, ov uU, .int (nI kAt), .int iTo, .int iFr, .long JFi, .int iFa, .ref qm3, .int iSt, .int iLv, .int iWs, vLa, .ref qmu, .ref qmy, .ref qmb, .ref qms, .int iOm], zzI cy qmh 8 fMh, zzI cy qmo 8 fMo, zzI cy qmz 8 fMz, zzG cy 4 qmR rR, zzJ cy (rR 0) 40 (eR 0), zzJ cy (rR 1) 40 (eR 1), zzJ cy (rR 2) 40 (eR 2), zzJ cy (rR 3) 40 (eR 3), zzJ cy (rR 4) 40 (eR 4), zzJ cy (rR 5) 40 (eR 5), zzJ cy (rR 6) 40 (eR 6), zzJ cy (rR 7) 40 (eR 7), zzI cy qmr 8 fX_36]) hx hb hr hlocks rfl (hP.sub [12, 11, 0, 1, 2, 3, 4, 5, 6, 7, 8, 9, 10, 13] rfl) (hD.sub [12, 11, 0, 1, 2, 3, 4, 5, 6, 7, 8, 9, 10, 13] (by decide +kernel) rfl) hS ⟨eR, fX_36, rfl, Or.inl ⟨rfl, Or.inr ⟨k_16, hk_17, rfl, h_18, h_19, h_23⟩, rfl⟩, trivial⟩ dX6_set_39
set_option maxHeartbeats 4000000 in
set_option maxRecDepth 100000 in
theorem p_X6_copy (l : Launch) (G : va_G) (cy : Nat → ClassId) (sz : Nat) (qm : Nat) (qmh : Nat) (qmo : Nat) (qmz : Nat) (qmR : Nat) (qmv : Nat) (qmk : Nat) (qma : Nat) (qmt : Nat) (kZ : Nat) (qmr : Nat) (tA : TA) (qmB : Nat) (qmO : Nat) (qmK : Nat) (iEn : Int32) (iTk : Int32) (uP : UM) (uU : UM) (kAt : Nat) (iTo : Int32) (iFr : Int32) (JFi : Int64) (iFa : Int32) (qm3 : Nat) (iSt : Int32) (iLv : Int32) (iWs : Int32) (vLa : Value) (qmu : Nat) (qmy : Nat) (qmb : Nat) (qms : Nat) (iOm : Int32) (fMh : Nat → Int32) (fMo : Nat → Int32) (fMz : Nat → Int32) (rR : Nat → Nat) (eR : Nat → Nat → Int64) (gMv : Nat → Int64) (fMr : Nat → Int32) (iA : Int32) (iB : Int32) (iC : Int32) (iD : Int32) (iE : Int32)  (hSz : ∀ s, s < 8 → ∃ n : Nat, n ≤ 40 ∧ fMz s = nI n) : MW l yX6_copy cX6_copy 7 (some .int) 16 0 0 G cy [zzO qm 5 [.ref qmh, .ref qmo, .ref qmz, .ref qmR, .ref qmv, .ref qmk, .ref qma, .ref qmt, .int (nI kZ), .ref qmr, .int (nI (T_nb tA)), .ref qmB, .int (nI (T_np tA)), .ref qmO, .ref qmK, .int iEn, .int iTk, .int (T_sd tA), ov uP, ov uU, .int (nI kAt), .int iTo, .int iFr, .long JFi, .int iFa, .ref qm3, .int iSt, .int iLv, .int iWs, vLa, .ref qmu, .ref qmy, .ref qmb, .ref qms, .int iOm], zzI cy qmh 8 fMh, zzI cy qmo 8 fMo, zzI cy qmz 8 fMz, zzG cy 4 qmR rR, zzJ cy (rR 0) 40 (eR 0), zzJ cy (rR 1) 40 (eR 1), zzJ cy (rR 2) 40 (eR 2), zzJ cy (rR 3) 40 (eR 3), zzJ cy (rR 4) 40 (eR 4), zzJ cy (rR 5) 40 (eR 5), zzJ cy (rR 6) 40 (eR 6), zzJ cy (rR 7) 40 (eR 7), zzJ cy qmv 40 gMv, zzI cy qmr 8 fMr] sz [.ref qm, .int iA, .int iB, .int iC, .int iD, .int iE] (Wi G (fun r u => ∃ (eN : Nat → Nat → Int64) (gNv : Nat → Int64) (fNr : Nat → Int32), u = [zzO qm 5 [.ref qmh, .ref qmo, .ref qmz, .ref qmR, .ref qmv, .ref qmk, .ref qma, .ref qmt, .int (nI kZ), .ref qmr, .int (nI (T_nb tA)), .ref qmB, .int (nI (T_np tA)), .ref qmO, .ref qmK, .int iEn, .int iTk, .int (T_sd tA), ov uP, ov uU, .int (nI kAt), .int iTo, .int iFr, .long JFi, .int iFa, .ref qm3, .int iSt, .int iLv, .int iWs, vLa, .ref qmu, .ref qmy, .ref qmb, .ref qms, .int iOm], zzI cy qmh 8 fMh, zzI cy qmo 8 fMo, zzI cy qmz 8 fMz, zzG cy 4 qmR rR, zzJ cy (rR 0) 40 (eN 0), zzJ cy (rR 1) 40 (eN 1), zzJ cy (rR 2) 40 (eN 2), zzJ cy (rR 3) 40 (eN 3), zzJ cy (rR 4) 40 (eN 4), zzJ cy (rR 5) 40 (eN 5), zzJ cy (rR 6) 40 (eN 6), zzJ cy (rR 7) 40 (eN 7), zzJ cy qmv 40 gNv, zzI cy qmr 8 fNr] ∧ (PMcopy fMh fMo fMz eR iA iB iC iD iE r eN) ∧ (True))) := by
  refine enW RX6 (by decide) rfl (Nat.le_of_ble_eq_true rfl) (fun p e s m below meth c ls A hx hb hml hown hts hr hlocks hP hN hl hin hD hA hS => ?_)
  have hin : meth.name = _ := hin
  have hK := hN.1
  replace hl : lv_has ls 7 [(0, .ref qm), (1, .int iA), (2, .int iB), (3, .int iC), (4, .int iD), (5, .int iE)] := hl
  refine lv_iload_n hx hb dX6_copy_0 rfl (lv_at hl 1 rfl) ?_
  refine lv_i2l (v := iA.toInt64) hx hb dX6_copy_1 rfl ?_
  refine lv_lconst (v := 0) hx hb dX6_copy_2 (by decide) ?_
  refine lv_ldc2 hx hb hown (hts _ m_t960) dX6_copy_3 ?_
  refine kRi (rS (As := [.long iA.toInt64, .long 0, .long 7]) (rest := []) ⟨hx, hb, hml, hown, hts⟩ (c_X6_in l G cy iA.toInt64 0 7) L_X6_74 (preRS hN hP [] rfl) rfl ⟨Nat.le_of_ble_eq_true rfl, Nat.le_of_ble_eq_true rfl⟩ hl.1 (Nat.le_of_ble_eq_true rfl) dX6_copy_6 ⟨Nat.le_of_ble_eq_true rfl, Nat.le_of_ble_eq_true rfl⟩) (fun r_1 h_2 => ?_)
  rcases h_2 with ⟨rfl, h_3⟩ | ⟨rfl, h_3⟩
  · obtain ⟨k_4, hk_5, hk_6, rfl⟩ := iv_nI 0 7 (by decide) (by decide) h_3
    refine lv_if_eq (tgt := 24) hx hb dX6_copy_9 (by decide) (fun h9 => absurd h9 (by decide)) (fun _ => ?_)
    refine lv_iload_n hx hb dX6_copy_12 rfl (lv_at hl 2 rfl) ?_
    refine lv_i2l (v := iB.toInt64) hx hb dX6_copy_13 rfl ?_
    refine lv_lconst (v := 0) hx hb dX6_copy_14 (by decide) ?_
    refine lv_ldc2 hx hb hown (hts _ m_t960) dX6_copy_15 ?_
    refine kRi (rS (As := [.long iB.toInt64, .long 0, .long 7]) (rest := []) ⟨hx, hb, hml, hown, hts⟩ (c_X6_in l G cy iB.toInt64 0 7) L_X6_74 (preRS hN hP [] rfl) rfl ⟨Nat.le_of_ble_eq_true rfl, Nat.le_of_ble_eq_true rfl⟩ hl.1 (Nat.le_of_ble_eq_true rfl) dX6_copy_18 ⟨Nat.le_of_ble_eq_true rfl, Nat.le_of_ble_eq_true rfl⟩) (fun r_8 h_9 => ?_)
    rcases h_9 with ⟨rfl, h_10⟩ | ⟨rfl, h_10⟩
    · obtain ⟨k_11, hk_12, hk_13, rfl⟩ := iv_nI 0 7 (by decide) (by decide) h_10
      refine lv_if_ne (tgt := 31) hx hb dX6_copy_21 (by decide) (fun _ => ?_) (fun h9 => absurd h9 (by decide))
      refine lv_aload_n hx hb dX6_copy_31 rfl (lv_at hl 0 rfl) ?_
      refine va_get (D := G) (ci := 5) (v := .ref qmh) (C := RX6) (T := TX6) (N := 35) hx hb hts iX_X6 hown hK hP 0 rfl rfl 0 (by decide) (hts _ m_t850) (fun _ h9 => h9) rfl dX6_copy_32 ?_
      refine lv_iload_n hx hb dX6_copy_35 rfl (lv_at hl 1 rfl) ?_
      refine va_iald hx hb hK hP 1 0 rfl rfl (in_shelf h_3) dX6_copy_36 ?_
      refine lv_seti (v := fMh k_4) (congrArg fMh (cl8 (by omega))) ?_
      refine lv_iconst (v := 2) hx hb dX6_copy_37 (by decide) ?_
      refine lv_icmp_eq (tgt := 86) hx hb dX6_copy_38 (by decide) (fun c_15 => ?_) (fun c_15 => ?_)
      · refine lv_aload_n hx hb dX6_copy_86 rfl (lv_at hl 0 rfl) ?_
        refine lv_bipush (v := (-3)) hx hb dX6_copy_87 (by decide) ?_
        refine cVi (As := [.int (-3)]) (rest := []) (b := qm) (q := (RX6, TX6, 35)) ⟨hx, hb, hml, hown, hts⟩ (c_X6_refuse3 l G cy (s.heap).size qm (.ref qmh) (.ref qmo) (.ref qmz) (.ref qmR) (.ref qmv) (.ref qmk) (.ref qma) (.ref qmt) (.int (nI kZ)) qmr tA qmB qmO qmK iEn iTk (ov uP) (ov uU) (.int (nI kAt)) (.int iTo) (.int iFr) (.long JFi) (.int iFa) (.ref qm3) (.int iSt) iLv iWs vLa (.ref qmu) (.ref qmy) (.ref qmb) (.ref qms) (.int iOm) fMr) L_X6_91 hN hP hD hS hA [0, 14] [false, true, true, true, true, true, true, true, true, true, true, true, true, true, false] rfl (by decide +kernel) rfl 0 5 rfl rfl rfl ⟨Nat.le_of_ble_eq_true rfl, Nat.le_of_ble_eq_true rfl⟩ hl.1 (Nat.le_of_ble_eq_true rfl) dX6_copy_89 ⟨Nat.le_of_ble_eq_true rfl, Nat.le_of_ble_eq_true rfl⟩ (fun r_16 u_18 H locs h_17 => ?_)
        clear hP hD hS
        intro hP hD hS
        obtain ⟨fX_19, rfl, h_17⟩ := h_17
        have hPD := pd_as [zzI cy qmh 8 fMh, zzI cy qmo 8 fMo, zzI cy qmz 8 fMz, zzG cy 4 qmR rR, zzJ cy (rR 0) 40 (eR 0), zzJ cy (rR 1) 40 (eR 1), zzJ cy (rR 2) 40 (eR 2), zzJ cy (rR 3) 40 (eR 3), zzJ cy (rR 4) 40 (eR 4), zzJ cy (rR 5) 40 (eR 5), zzJ cy (rR 6) 40 (eR 6), zzJ cy (rR 7) 40 (eR 7), zzJ cy qmv 40 gMv, zzO qm 5 [.ref qmh, .ref qmo, .ref qmz, .ref qmR, .ref qmv, .ref qmk, .ref qma, .ref qmt, .int (nI kZ), .ref qmr, .int (nI (T_nb tA)), .ref qmB, .int (nI (T_np tA)), .ref qmO, .ref qmK, .int iEn, .int iTk, .int (T_sd tA), ov uP, ov uU, .int (nI kAt), .int iTo, .int iFr, .long JFi, .int iFa, .ref qm3, .int iSt, .int iLv, .int iWs, vLa, .ref qmu, .ref qmy, .ref qmb, .ref qms, .int iOm], zzI cy qmr 8 fX_19] hP hD rfl
        clear hP hD
        obtain ⟨hP, hD⟩ := hPD
        subst h_17
        exact endW (u := [zzO qm 5 [.ref qmh, .ref qmo, .ref qmz, .ref qmR, .ref qmv, .ref qmk, .ref qma, .ref qmt, .int (nI kZ), .ref qmr, .int (nI (T_nb tA)), .ref qmB, .int (nI (T_np tA)), .ref qmO, .ref qmK, .int iEn, .int iTk, .int (T_sd tA), ov uP, ov uU, .int (nI kAt), .int iTo, .int iFr, .long JFi, .int iFa, .ref qm3, .int iSt, .int iLv, .int iWs, vLa, .ref qmu, .ref qmy, .ref qmb, .ref qms, .int iOm], zzI cy qmh 8 fMh, zzI cy qmo 8 fMo, zzI cy qmz 8 fMz, zzG cy 4 qmR rR, zzJ cy (rR 0) 40 (eR 0), zzJ cy (rR 1) 40 (eR 1), zzJ cy (rR 2) 40 (eR 2), zzJ cy (rR 3) 40 (eR 3), zzJ cy (rR 4) 40 (eR 4), zzJ cy (rR 5) 40 (eR 5), zzJ cy (rR 6) 40 (eR 6), zzJ cy (rR 7) 40 (eR 7), zzJ cy qmv 40 gMv, zzI cy qmr 8 fX_19]) hx hb hr hlocks rfl (hP.sub [13, 0, 1, 2, 3, 4, 5, 6, 7, 8, 9, 10, 11, 12, 14] rfl) (hD.sub [13, 0, 1, 2, 3, 4, 5, 6, 7, 8, 9, 10, 11, 12, 14] (by decide +kernel) rfl) hS ⟨eR, gMv, fX_19, rfl, Or.inr (Or.inl ⟨rfl, ⟨k_4, k_11, by omega, by omega, rfl, rfl, Or.inl c_15⟩, rfl⟩), trivial⟩ dX6_copy_92
      · refine lv_aload_n hx hb dX6_copy_41 rfl (lv_at hl 0 rfl) ?_
        refine va_get (D := G) (ci := 5) (v := .ref qmh) (C := RX6) (T := TX6) (N := 35) hx hb hts iX_X6 hown hK hP 0 rfl rfl 0 (by decide) (hts _ m_t850) (fun _ h9 => h9) rfl dX6_copy_42 ?_
        refine lv_iload_n hx hb dX6_copy_45 rfl (lv_at hl 2 rfl) ?_
        refine va_iald hx hb hK hP 1 0 rfl rfl (in_shelf h_10) dX6_copy_46 ?_
        refine lv_seti (v := fMh k_11) (congrArg fMh (cl8 (by omega))) ?_
        refine lv_iconst (v := 2) hx hb dX6_copy_47 (by decide) ?_
        refine lv_icmp_eq (tgt := 86) hx hb dX6_copy_48 (by decide) (fun c_20 => ?_) (fun c_20 => ?_)
        · refine lv_aload_n hx hb dX6_copy_86 rfl (lv_at hl 0 rfl) ?_
          refine lv_bipush (v := (-3)) hx hb dX6_copy_87 (by decide) ?_
          refine cVi (As := [.int (-3)]) (rest := []) (b := qm) (q := (RX6, TX6, 35)) ⟨hx, hb, hml, hown, hts⟩ (c_X6_refuse3 l G cy (s.heap).size qm (.ref qmh) (.ref qmo) (.ref qmz) (.ref qmR) (.ref qmv) (.ref qmk) (.ref qma) (.ref qmt) (.int (nI kZ)) qmr tA qmB qmO qmK iEn iTk (ov uP) (ov uU) (.int (nI kAt)) (.int iTo) (.int iFr) (.long JFi) (.int iFa) (.ref qm3) (.int iSt) iLv iWs vLa (.ref qmu) (.ref qmy) (.ref qmb) (.ref qms) (.int iOm) fMr) L_X6_91 hN hP hD hS hA [0, 14] [false, true, true, true, true, true, true, true, true, true, true, true, true, true, false] rfl (by decide +kernel) rfl 0 5 rfl rfl rfl ⟨Nat.le_of_ble_eq_true rfl, Nat.le_of_ble_eq_true rfl⟩ hl.1 (Nat.le_of_ble_eq_true rfl) dX6_copy_89 ⟨Nat.le_of_ble_eq_true rfl, Nat.le_of_ble_eq_true rfl⟩ (fun r_21 u_23 H locs h_22 => ?_)
          clear hP hD hS
          intro hP hD hS
          obtain ⟨fX_24, rfl, h_22⟩ := h_22
          have hPD := pd_as [zzI cy qmh 8 fMh, zzI cy qmo 8 fMo, zzI cy qmz 8 fMz, zzG cy 4 qmR rR, zzJ cy (rR 0) 40 (eR 0), zzJ cy (rR 1) 40 (eR 1), zzJ cy (rR 2) 40 (eR 2), zzJ cy (rR 3) 40 (eR 3), zzJ cy (rR 4) 40 (eR 4), zzJ cy (rR 5) 40 (eR 5), zzJ cy (rR 6) 40 (eR 6), zzJ cy (rR 7) 40 (eR 7), zzJ cy qmv 40 gMv, zzO qm 5 [.ref qmh, .ref qmo, .ref qmz, .ref qmR, .ref qmv, .ref qmk, .ref qma, .ref qmt, .int (nI kZ), .ref qmr, .int (nI (T_nb tA)), .ref qmB, .int (nI (T_np tA)), .ref qmO, .ref qmK, .int iEn, .int iTk, .int (T_sd tA), ov uP, ov uU, .int (nI kAt), .int iTo, .int iFr, .long JFi, .int iFa, .ref qm3, .int iSt, .int iLv, .int iWs, vLa, .ref qmu, .ref qmy, .ref qmb, .ref qms, .int iOm], zzI cy qmr 8 fX_24] hP hD rfl
          clear hP hD
          obtain ⟨hP, hD⟩ := hPD
          subst h_22
          exact endW (u := [zzO qm 5 [.ref qmh, .ref qmo, .ref qmz, .ref qmR, .ref qmv, .ref qmk, .ref qma, .ref qmt, .int (nI kZ), .ref qmr, .int (nI (T_nb tA)), .ref qmB, .int (nI (T_np tA)), .ref qmO, .ref qmK, .int iEn, .int iTk, .int (T_sd tA), ov uP, ov uU, .int (nI kAt), .int iTo, .int iFr, .long JFi, .int iFa, .ref qm3, .int iSt, .int iLv, .int iWs, vLa, .ref qmu, .ref qmy, .ref qmb, .ref qms, .int iOm], zzI cy qmh 8 fMh, zzI cy qmo 8 fMo, zzI cy qmz 8 fMz, zzG cy 4 qmR rR, zzJ cy (rR 0) 40 (eR 0), zzJ cy (rR 1) 40 (eR 1), zzJ cy (rR 2) 40 (eR 2), zzJ cy (rR 3) 40 (eR 3), zzJ cy (rR 4) 40 (eR 4), zzJ cy (rR 5) 40 (eR 5), zzJ cy (rR 6) 40 (eR 6), zzJ cy (rR 7) 40 (eR 7), zzJ cy qmv 40 gMv, zzI cy qmr 8 fX_24]) hx hb hr hlocks rfl (hP.sub [13, 0, 1, 2, 3, 4, 5, 6, 7, 8, 9, 10, 11, 12, 14] rfl) (hD.sub [13, 0, 1, 2, 3, 4, 5, 6, 7, 8, 9, 10, 11, 12, 14] (by decide +kernel) rfl) hS ⟨eR, gMv, fX_24, rfl, Or.inr (Or.inl ⟨rfl, ⟨k_4, k_11, by omega, by omega, rfl, rfl, Or.inr (Or.inl c_20)⟩, rfl⟩), trivial⟩ dX6_copy_92
        · refine lv_aload_n hx hb dX6_copy_51 rfl (lv_at hl 0 rfl) ?_
          refine va_get (D := G) (ci := 5) (v := .ref qmh) (C := RX6) (T := TX6) (N := 35) hx hb hts iX_X6 hown hK hP 0 rfl rfl 0 (by decide) (hts _ m_t850) (fun _ h9 => h9) rfl dX6_copy_52 ?_
          refine lv_iload_n hx hb dX6_copy_55 rfl (lv_at hl 1 rfl) ?_
          refine va_iald hx hb hK hP 1 0 rfl rfl (in_shelf h_3) dX6_copy_56 ?_
          refine lv_seti (v := fMh k_4) (congrArg fMh (cl8 (by omega))) ?_
          refine lv_iconst (v := 1) hx hb dX6_copy_57 (by decide) ?_
          refine lv_icmp_ne (tgt := 93) hx hb dX6_copy_58 (by decide) (fun c_25 => ?_) (fun c_25 => ?_)
          · refine lv_aload_n hx hb dX6_copy_93 rfl (lv_at hl 0 rfl) ?_
            refine va_get (D := G) (ci := 5) (v := .ref qmh) (C := RX6) (T := TX6) (N := 35) hx hb hts iX_X6 hown hK hP 0 rfl rfl 0 (by decide) (hts _ m_t850) (fun _ h9 => h9) rfl dX6_copy_94 ?_
            refine lv_iload_n hx hb dX6_copy_97 rfl (lv_at hl 1 rfl) ?_
            refine va_iald hx hb hK hP 1 0 rfl rfl (in_shelf h_3) dX6_copy_98 ?_
            refine lv_seti (v := fMh k_4) (congrArg fMh (cl8 (by omega))) ?_
            refine lv_if_eq (tgt := 111) hx hb dX6_copy_99 (by decide) (fun c_26 => ?_) (fun c_26 => ?_)
            · refine lv_aload_n hx hb dX6_copy_111 rfl (lv_at hl 0 rfl) ?_
              refine lv_bipush (v := (-4)) hx hb dX6_copy_112 (by decide) ?_
              refine cVi (As := [.int (-4)]) (rest := []) (b := qm) (q := (RX6, TX6, 35)) ⟨hx, hb, hml, hown, hts⟩ (c_X6_refuse4 l G cy (s.heap).size qm (.ref qmh) (.ref qmo) (.ref qmz) (.ref qmR) (.ref qmv) (.ref qmk) (.ref qma) (.ref qmt) (.int (nI kZ)) qmr tA qmB qmO qmK iEn iTk (ov uP) (ov uU) (.int (nI kAt)) (.int iTo) (.int iFr) (.long JFi) (.int iFa) (.ref qm3) (.int iSt) iLv iWs vLa (.ref qmu) (.ref qmy) (.ref qmb) (.ref qms) (.int iOm) fMr) L_X6_91 hN hP hD hS hA [0, 14] [false, true, true, true, true, true, true, true, true, true, true, true, true, true, false] rfl (by decide +kernel) rfl 0 5 rfl rfl rfl ⟨Nat.le_of_ble_eq_true rfl, Nat.le_of_ble_eq_true rfl⟩ hl.1 (Nat.le_of_ble_eq_true rfl) dX6_copy_114 ⟨Nat.le_of_ble_eq_true rfl, Nat.le_of_ble_eq_true rfl⟩ (fun r_27 u_29 H locs h_28 => ?_)
              clear hP hD hS
              intro hP hD hS
              obtain ⟨fX_30, rfl, h_28⟩ := h_28
              have hPD := pd_as [zzI cy qmh 8 fMh, zzI cy qmo 8 fMo, zzI cy qmz 8 fMz, zzG cy 4 qmR rR, zzJ cy (rR 0) 40 (eR 0), zzJ cy (rR 1) 40 (eR 1), zzJ cy (rR 2) 40 (eR 2), zzJ cy (rR 3) 40 (eR 3), zzJ cy (rR 4) 40 (eR 4), zzJ cy (rR 5) 40 (eR 5), zzJ cy (rR 6) 40 (eR 6), zzJ cy (rR 7) 40 (eR 7), zzJ cy qmv 40 gMv, zzO qm 5 [.ref qmh, .ref qmo, .ref qmz, .ref qmR, .ref qmv, .ref qmk, .ref qma, .ref qmt, .int (nI kZ), .ref qmr, .int (nI (T_nb tA)), .ref qmB, .int (nI (T_np tA)), .ref qmO, .ref qmK, .int iEn, .int iTk, .int (T_sd tA), ov uP, ov uU, .int (nI kAt), .int iTo, .int iFr, .long JFi, .int iFa, .ref qm3, .int iSt, .int iLv, .int iWs, vLa, .ref qmu, .ref qmy, .ref qmb, .ref qms, .int iOm], zzI cy qmr 8 fX_30] hP hD rfl
              clear hP hD
              obtain ⟨hP, hD⟩ := hPD
              subst h_28
              exact endW (u := [zzO qm 5 [.ref qmh, .ref qmo, .ref qmz, .ref qmR, .ref qmv, .ref qmk, .ref qma, .ref qmt, .int (nI kZ), .ref qmr, .int (nI (T_nb tA)), .ref qmB, .int (nI (T_np tA)), .ref qmO, .ref qmK, .int iEn, .int iTk, .int (T_sd tA), ov uP, ov uU, .int (nI kAt), .int iTo, .int iFr, .long JFi, .int iFa, .ref qm3, .int iSt, .int iLv, .int iWs, vLa, .ref qmu, .ref qmy, .ref qmb, .ref qms, .int iOm], zzI cy qmh 8 fMh, zzI cy qmo 8 fMo, zzI cy qmz 8 fMz, zzG cy 4 qmR rR, zzJ cy (rR 0) 40 (eR 0), zzJ cy (rR 1) 40 (eR 1), zzJ cy (rR 2) 40 (eR 2), zzJ cy (rR 3) 40 (eR 3), zzJ cy (rR 4) 40 (eR 4), zzJ cy (rR 5) 40 (eR 5), zzJ cy (rR 6) 40 (eR 6), zzJ cy (rR 7) 40 (eR 7), zzJ cy qmv 40 gMv, zzI cy qmr 8 fX_30]) hx hb hr hlocks rfl (hP.sub [13, 0, 1, 2, 3, 4, 5, 6, 7, 8, 9, 10, 11, 12, 14] rfl) (hD.sub [13, 0, 1, 2, 3, 4, 5, 6, 7, 8, 9, 10, 11, 12, 14] (by decide +kernel) rfl) hS ⟨eR, gMv, fX_30, rfl, Or.inr (Or.inr (Or.inl ⟨rfl, ⟨k_4, k_11, by omega, by omega, rfl, rfl, c_15, c_20, Or.inl c_26⟩, rfl⟩)), trivial⟩ dX6_copy_117
            · refine lv_aload_n hx hb dX6_copy_102 rfl (lv_at hl 0 rfl) ?_
              refine va_get (D := G) (ci := 5) (v := .ref qmh) (C := RX6) (T := TX6) (N := 35) hx hb hts iX_X6 hown hK hP 0 rfl rfl 0 (by decide) (hts _ m_t850) (fun _ h9 => h9) rfl dX6_copy_103 ?_
              refine lv_iload_n hx hb dX6_copy_106 rfl (lv_at hl 2 rfl) ?_
              refine va_iald hx hb hK hP 1 0 rfl rfl (in_shelf h_10) dX6_copy_107 ?_
              refine lv_seti (v := fMh k_11) (congrArg fMh (cl8 (by omega))) ?_
              refine lv_if_ne (tgt := 118) hx hb dX6_copy_108 (by decide) (fun c_31 => ?_) (fun c_31 => ?_)
              · refine lv_iload hx hb dX6_copy_118 (lv_at hl 5 rfl) ?_
                refine lv_if_lt (tgt := 181) hx hb dX6_copy_120 (by decide) (fun c_32 => ?_) (fun c_32 => ?_)
                · refine lv_aload_n hx hb dX6_copy_181 rfl (lv_at hl 0 rfl) ?_
                  refine lv_bipush (v := (-2)) hx hb dX6_copy_182 (by decide) ?_
                  refine cVi (As := [.int (-2)]) (rest := []) (b := qm) (q := (RX6, TX6, 35)) ⟨hx, hb, hml, hown, hts⟩ (c_X6_refuse2 l G cy (s.heap).size qm (.ref qmh) (.ref qmo) (.ref qmz) (.ref qmR) (.ref qmv) (.ref qmk) (.ref qma) (.ref qmt) (.int (nI kZ)) qmr tA qmB qmO qmK iEn iTk (ov uP) (ov uU) (.int (nI kAt)) (.int iTo) (.int iFr) (.long JFi) (.int iFa) (.ref qm3) (.int iSt) iLv iWs vLa (.ref qmu) (.ref qmy) (.ref qmb) (.ref qms) (.int iOm) fMr) L_X6_91 hN hP hD hS hA [0, 14] [false, true, true, true, true, true, true, true, true, true, true, true, true, true, false] rfl (by decide +kernel) rfl 0 5 rfl rfl rfl ⟨Nat.le_of_ble_eq_true rfl, Nat.le_of_ble_eq_true rfl⟩ hl.1 (Nat.le_of_ble_eq_true rfl) dX6_copy_184 ⟨Nat.le_of_ble_eq_true rfl, Nat.le_of_ble_eq_true rfl⟩ (fun r_33 u_35 H locs h_34 => ?_)
                  clear hP hD hS
                  intro hP hD hS
                  obtain ⟨fX_36, rfl, h_34⟩ := h_34
                  have hPD := pd_as [zzI cy qmh 8 fMh, zzI cy qmo 8 fMo, zzI cy qmz 8 fMz, zzG cy 4 qmR rR, zzJ cy (rR 0) 40 (eR 0), zzJ cy (rR 1) 40 (eR 1), zzJ cy (rR 2) 40 (eR 2), zzJ cy (rR 3) 40 (eR 3), zzJ cy (rR 4) 40 (eR 4), zzJ cy (rR 5) 40 (eR 5), zzJ cy (rR 6) 40 (eR 6), zzJ cy (rR 7) 40 (eR 7), zzJ cy qmv 40 gMv, zzO qm 5 [.ref qmh, .ref qmo, .ref qmz, .ref qmR, .ref qmv, .ref qmk, .ref qma, .ref qmt, .int (nI kZ), .ref qmr, .int (nI (T_nb tA)), .ref qmB, .int (nI (T_np tA)), .ref qmO, .ref qmK, .int iEn, .int iTk, .int (T_sd tA), ov uP, ov uU, .int (nI kAt), .int iTo, .int iFr, .long JFi, .int iFa, .ref qm3, .int iSt, .int iLv, .int iWs, vLa, .ref qmu, .ref qmy, .ref qmb, .ref qms, .int iOm], zzI cy qmr 8 fX_36] hP hD rfl
                  clear hP hD
                  obtain ⟨hP, hD⟩ := hPD
                  subst h_34
                  exact endW (u := [zzO qm 5 [.ref qmh, .ref qmo, .ref qmz, .ref qmR, .ref qmv, .ref qmk, .ref qma, .ref qmt, .int (nI kZ), .ref qmr, .int (nI (T_nb tA)), .ref qmB, .int (nI (T_np tA)), .ref qmO, .ref qmK, .int iEn, .int iTk, .int (T_sd tA), ov uP, ov uU, .int (nI kAt), .int iTo, .int iFr, .long JFi, .int iFa, .ref qm3, .int iSt, .int iLv, .int iWs, vLa, .ref qmu, .ref qmy, .ref qmb, .ref qms, .int iOm], zzI cy qmh 8 fMh, zzI cy qmo 8 fMo, zzI cy qmz 8 fMz, zzG cy 4 qmR rR, zzJ cy (rR 0) 40 (eR 0), zzJ cy (rR 1) 40 (eR 1), zzJ cy (rR 2) 40 (eR 2), zzJ cy (rR 3) 40 (eR 3), zzJ cy (rR 4) 40 (eR 4), zzJ cy (rR 5) 40 (eR 5), zzJ cy (rR 6) 40 (eR 6), zzJ cy (rR 7) 40 (eR 7), zzJ cy qmv 40 gMv, zzI cy qmr 8 fX_36]) hx hb hr hlocks rfl (hP.sub [13, 0, 1, 2, 3, 4, 5, 6, 7, 8, 9, 10, 11, 12, 14] rfl) (hD.sub [13, 0, 1, 2, 3, 4, 5, 6, 7, 8, 9, 10, 11, 12, 14] (by decide +kernel) rfl) hS ⟨eR, gMv, fX_36, rfl, Or.inl ⟨rfl, Or.inr ⟨k_4, k_11, by omega, by omega, rfl, rfl, c_15, c_20, c_26, c_31, (fun h1 h2 => absurd h1 c_25), (fun q => q.1 c_32)⟩, rfl⟩, trivial⟩ dX6_copy_187
                · refine lv_iload_n hx hb dX6_copy_123 rfl (lv_at hl 3 rfl) ?_
                  refine lv_if_lt (tgt := 181) hx hb dX6_copy_124 (by decide) (fun c_37 => ?_) (fun c_37 => ?_)
                  · refine lv_aload_n hx hb dX6_copy_181 rfl (lv_at hl 0 rfl) ?_
                    refine lv_bipush (v := (-2)) hx hb dX6_copy_182 (by decide) ?_
                    refine cVi (As := [.int (-2)]) (rest := []) (b := qm) (q := (RX6, TX6, 35)) ⟨hx, hb, hml, hown, hts⟩ (c_X6_refuse2 l G cy (s.heap).size qm (.ref qmh) (.ref qmo) (.ref qmz) (.ref qmR) (.ref qmv) (.ref qmk) (.ref qma) (.ref qmt) (.int (nI kZ)) qmr tA qmB qmO qmK iEn iTk (ov uP) (ov uU) (.int (nI kAt)) (.int iTo) (.int iFr) (.long JFi) (.int iFa) (.ref qm3) (.int iSt) iLv iWs vLa (.ref qmu) (.ref qmy) (.ref qmb) (.ref qms) (.int iOm) fMr) L_X6_91 hN hP hD hS hA [0, 14] [false, true, true, true, true, true, true, true, true, true, true, true, true, true, false] rfl (by decide +kernel) rfl 0 5 rfl rfl rfl ⟨Nat.le_of_ble_eq_true rfl, Nat.le_of_ble_eq_true rfl⟩ hl.1 (Nat.le_of_ble_eq_true rfl) dX6_copy_184 ⟨Nat.le_of_ble_eq_true rfl, Nat.le_of_ble_eq_true rfl⟩ (fun r_38 u_40 H locs h_39 => ?_)
                    clear hP hD hS
                    intro hP hD hS
                    obtain ⟨fX_41, rfl, h_39⟩ := h_39
                    have hPD := pd_as [zzI cy qmh 8 fMh, zzI cy qmo 8 fMo, zzI cy qmz 8 fMz, zzG cy 4 qmR rR, zzJ cy (rR 0) 40 (eR 0), zzJ cy (rR 1) 40 (eR 1), zzJ cy (rR 2) 40 (eR 2), zzJ cy (rR 3) 40 (eR 3), zzJ cy (rR 4) 40 (eR 4), zzJ cy (rR 5) 40 (eR 5), zzJ cy (rR 6) 40 (eR 6), zzJ cy (rR 7) 40 (eR 7), zzJ cy qmv 40 gMv, zzO qm 5 [.ref qmh, .ref qmo, .ref qmz, .ref qmR, .ref qmv, .ref qmk, .ref qma, .ref qmt, .int (nI kZ), .ref qmr, .int (nI (T_nb tA)), .ref qmB, .int (nI (T_np tA)), .ref qmO, .ref qmK, .int iEn, .int iTk, .int (T_sd tA), ov uP, ov uU, .int (nI kAt), .int iTo, .int iFr, .long JFi, .int iFa, .ref qm3, .int iSt, .int iLv, .int iWs, vLa, .ref qmu, .ref qmy, .ref qmb, .ref qms, .int iOm], zzI cy qmr 8 fX_41] hP hD rfl
                    clear hP hD
                    obtain ⟨hP, hD⟩ := hPD
                    subst h_39
                    exact endW (u := [zzO qm 5 [.ref qmh, .ref qmo, .ref qmz, .ref qmR, .ref qmv, .ref qmk, .ref qma, .ref qmt, .int (nI kZ), .ref qmr, .int (nI (T_nb tA)), .ref qmB, .int (nI (T_np tA)), .ref qmO, .ref qmK, .int iEn, .int iTk, .int (T_sd tA), ov uP, ov uU, .int (nI kAt), .int iTo, .int iFr, .long JFi, .int iFa, .ref qm3, .int iSt, .int iLv, .int iWs, vLa, .ref qmu, .ref qmy, .ref qmb, .ref qms, .int iOm], zzI cy qmh 8 fMh, zzI cy qmo 8 fMo, zzI cy qmz 8 fMz, zzG cy 4 qmR rR, zzJ cy (rR 0) 40 (eR 0), zzJ cy (rR 1) 40 (eR 1), zzJ cy (rR 2) 40 (eR 2), zzJ cy (rR 3) 40 (eR 3), zzJ cy (rR 4) 40 (eR 4), zzJ cy (rR 5) 40 (eR 5), zzJ cy (rR 6) 40 (eR 6), zzJ cy (rR 7) 40 (eR 7), zzJ cy qmv 40 gMv, zzI cy qmr 8 fX_41]) hx hb hr hlocks rfl (hP.sub [13, 0, 1, 2, 3, 4, 5, 6, 7, 8, 9, 10, 11, 12, 14] rfl) (hD.sub [13, 0, 1, 2, 3, 4, 5, 6, 7, 8, 9, 10, 11, 12, 14] (by decide +kernel) rfl) hS ⟨eR, gMv, fX_41, rfl, Or.inl ⟨rfl, Or.inr ⟨k_4, k_11, by omega, by omega, rfl, rfl, c_15, c_20, c_26, c_31, (fun h1 h2 => absurd h1 c_25), (fun q => q.2.1 c_37)⟩, rfl⟩, trivial⟩ dX6_copy_187
                  · refine lv_iload hx hb dX6_copy_127 (lv_at hl 4 rfl) ?_
                    refine lv_if_lt (tgt := 181) hx hb dX6_copy_129 (by decide) (fun c_42 => ?_) (fun c_42 => ?_)
                    · refine lv_aload_n hx hb dX6_copy_181 rfl (lv_at hl 0 rfl) ?_
                      refine lv_bipush (v := (-2)) hx hb dX6_copy_182 (by decide) ?_
                      refine cVi (As := [.int (-2)]) (rest := []) (b := qm) (q := (RX6, TX6, 35)) ⟨hx, hb, hml, hown, hts⟩ (c_X6_refuse2 l G cy (s.heap).size qm (.ref qmh) (.ref qmo) (.ref qmz) (.ref qmR) (.ref qmv) (.ref qmk) (.ref qma) (.ref qmt) (.int (nI kZ)) qmr tA qmB qmO qmK iEn iTk (ov uP) (ov uU) (.int (nI kAt)) (.int iTo) (.int iFr) (.long JFi) (.int iFa) (.ref qm3) (.int iSt) iLv iWs vLa (.ref qmu) (.ref qmy) (.ref qmb) (.ref qms) (.int iOm) fMr) L_X6_91 hN hP hD hS hA [0, 14] [false, true, true, true, true, true, true, true, true, true, true, true, true, true, false] rfl (by decide +kernel) rfl 0 5 rfl rfl rfl ⟨Nat.le_of_ble_eq_true rfl, Nat.le_of_ble_eq_true rfl⟩ hl.1 (Nat.le_of_ble_eq_true rfl) dX6_copy_184 ⟨Nat.le_of_ble_eq_true rfl, Nat.le_of_ble_eq_true rfl⟩ (fun r_43 u_45 H locs h_44 => ?_)
                      clear hP hD hS
                      intro hP hD hS
                      obtain ⟨fX_46, rfl, h_44⟩ := h_44
                      have hPD := pd_as [zzI cy qmh 8 fMh, zzI cy qmo 8 fMo, zzI cy qmz 8 fMz, zzG cy 4 qmR rR, zzJ cy (rR 0) 40 (eR 0), zzJ cy (rR 1) 40 (eR 1), zzJ cy (rR 2) 40 (eR 2), zzJ cy (rR 3) 40 (eR 3), zzJ cy (rR 4) 40 (eR 4), zzJ cy (rR 5) 40 (eR 5), zzJ cy (rR 6) 40 (eR 6), zzJ cy (rR 7) 40 (eR 7), zzJ cy qmv 40 gMv, zzO qm 5 [.ref qmh, .ref qmo, .ref qmz, .ref qmR, .ref qmv, .ref qmk, .ref qma, .ref qmt, .int (nI kZ), .ref qmr, .int (nI (T_nb tA)), .ref qmB, .int (nI (T_np tA)), .ref qmO, .ref qmK, .int iEn, .int iTk, .int (T_sd tA), ov uP, ov uU, .int (nI kAt), .int iTo, .int iFr, .long JFi, .int iFa, .ref qm3, .int iSt, .int iLv, .int iWs, vLa, .ref qmu, .ref qmy, .ref qmb, .ref qms, .int iOm], zzI cy qmr 8 fX_46] hP hD rfl
                      clear hP hD
                      obtain ⟨hP, hD⟩ := hPD
                      subst h_44
                      exact endW (u := [zzO qm 5 [.ref qmh, .ref qmo, .ref qmz, .ref qmR, .ref qmv, .ref qmk, .ref qma, .ref qmt, .int (nI kZ), .ref qmr, .int (nI (T_nb tA)), .ref qmB, .int (nI (T_np tA)), .ref qmO, .ref qmK, .int iEn, .int iTk, .int (T_sd tA), ov uP, ov uU, .int (nI kAt), .int iTo, .int iFr, .long JFi, .int iFa, .ref qm3, .int iSt, .int iLv, .int iWs, vLa, .ref qmu, .ref qmy, .ref qmb, .ref qms, .int iOm], zzI cy qmh 8 fMh, zzI cy qmo 8 fMo, zzI cy qmz 8 fMz, zzG cy 4 qmR rR, zzJ cy (rR 0) 40 (eR 0), zzJ cy (rR 1) 40 (eR 1), zzJ cy (rR 2) 40 (eR 2), zzJ cy (rR 3) 40 (eR 3), zzJ cy (rR 4) 40 (eR 4), zzJ cy (rR 5) 40 (eR 5), zzJ cy (rR 6) 40 (eR 6), zzJ cy (rR 7) 40 (eR 7), zzJ cy qmv 40 gMv, zzI cy qmr 8 fX_46]) hx hb hr hlocks rfl (hP.sub [13, 0, 1, 2, 3, 4, 5, 6, 7, 8, 9, 10, 11, 12, 14] rfl) (hD.sub [13, 0, 1, 2, 3, 4, 5, 6, 7, 8, 9, 10, 11, 12, 14] (by decide +kernel) rfl) hS ⟨eR, gMv, fX_46, rfl, Or.inl ⟨rfl, Or.inr ⟨k_4, k_11, by omega, by omega, rfl, rfl, c_15, c_20, c_26, c_31, (fun h1 h2 => absurd h1 c_25), (fun q => q.2.2.1 c_42)⟩, rfl⟩, trivial⟩ dX6_copy_187
                    · refine lv_iload hx hb dX6_copy_132 (lv_at hl 5 rfl) ?_
                      refine lv_aload_n hx hb dX6_copy_134 rfl (lv_at hl 0 rfl) ?_
                      refine va_get (D := G) (ci := 5) (v := .ref qmz) (C := RX6) (T := TX6) (N := 35) hx hb hts iX_X6 hown hK hP 0 rfl rfl 2 (by decide) (hts _ m_t852) (fun _ h9 => h9) rfl dX6_copy_135 ?_
                      refine lv_iload_n hx hb dX6_copy_138 rfl (lv_at hl 1 rfl) ?_
                      refine va_iald hx hb hK hP 3 0 rfl rfl (in_shelf h_3) dX6_copy_139 ?_
                      refine lv_seti (v := fMz k_4) (congrArg fMz (cl8 (by omega))) ?_
                      refine lv_icmp_gt (tgt := 181) hx hb dX6_copy_140 (by decide) (fun c_47 => ?_) (fun c_47 => ?_)
                      · refine lv_aload_n hx hb dX6_copy_181 rfl (lv_at hl 0 rfl) ?_
                        refine lv_bipush (v := (-2)) hx hb dX6_copy_182 (by decide) ?_
                        refine cVi (As := [.int (-2)]) (rest := []) (b := qm) (q := (RX6, TX6, 35)) ⟨hx, hb, hml, hown, hts⟩ (c_X6_refuse2 l G cy (s.heap).size qm (.ref qmh) (.ref qmo) (.ref qmz) (.ref qmR) (.ref qmv) (.ref qmk) (.ref qma) (.ref qmt) (.int (nI kZ)) qmr tA qmB qmO qmK iEn iTk (ov uP) (ov uU) (.int (nI kAt)) (.int iTo) (.int iFr) (.long JFi) (.int iFa) (.ref qm3) (.int iSt) iLv iWs vLa (.ref qmu) (.ref qmy) (.ref qmb) (.ref qms) (.int iOm) fMr) L_X6_91 hN hP hD hS hA [0, 14] [false, true, true, true, true, true, true, true, true, true, true, true, true, true, false] rfl (by decide +kernel) rfl 0 5 rfl rfl rfl ⟨Nat.le_of_ble_eq_true rfl, Nat.le_of_ble_eq_true rfl⟩ hl.1 (Nat.le_of_ble_eq_true rfl) dX6_copy_184 ⟨Nat.le_of_ble_eq_true rfl, Nat.le_of_ble_eq_true rfl⟩ (fun r_48 u_50 H locs h_49 => ?_)
                        clear hP hD hS
                        intro hP hD hS
                        obtain ⟨fX_51, rfl, h_49⟩ := h_49
                        have hPD := pd_as [zzI cy qmh 8 fMh, zzI cy qmo 8 fMo, zzI cy qmz 8 fMz, zzG cy 4 qmR rR, zzJ cy (rR 0) 40 (eR 0), zzJ cy (rR 1) 40 (eR 1), zzJ cy (rR 2) 40 (eR 2), zzJ cy (rR 3) 40 (eR 3), zzJ cy (rR 4) 40 (eR 4), zzJ cy (rR 5) 40 (eR 5), zzJ cy (rR 6) 40 (eR 6), zzJ cy (rR 7) 40 (eR 7), zzJ cy qmv 40 gMv, zzO qm 5 [.ref qmh, .ref qmo, .ref qmz, .ref qmR, .ref qmv, .ref qmk, .ref qma, .ref qmt, .int (nI kZ), .ref qmr, .int (nI (T_nb tA)), .ref qmB, .int (nI (T_np tA)), .ref qmO, .ref qmK, .int iEn, .int iTk, .int (T_sd tA), ov uP, ov uU, .int (nI kAt), .int iTo, .int iFr, .long JFi, .int iFa, .ref qm3, .int iSt, .int iLv, .int iWs, vLa, .ref qmu, .ref qmy, .ref qmb, .ref qms, .int iOm], zzI cy qmr 8 fX_51] hP hD rfl
                        clear hP hD
                        obtain ⟨hP, hD⟩ := hPD
                        subst h_49
                        exact endW (u := [zzO qm 5 [.ref qmh, .ref qmo, .ref qmz, .ref qmR, .ref qmv, .ref qmk, .ref qma, .ref qmt, .int (nI kZ), .ref qmr, .int (nI (T_nb tA)), .ref qmB, .int (nI (T_np tA)), .ref qmO, .ref qmK, .int iEn, .int iTk, .int (T_sd tA), ov uP, ov uU, .int (nI kAt), .int iTo, .int iFr, .long JFi, .int iFa, .ref qm3, .int iSt, .int iLv, .int iWs, vLa, .ref qmu, .ref qmy, .ref qmb, .ref qms, .int iOm], zzI cy qmh 8 fMh, zzI cy qmo 8 fMo, zzI cy qmz 8 fMz, zzG cy 4 qmR rR, zzJ cy (rR 0) 40 (eR 0), zzJ cy (rR 1) 40 (eR 1), zzJ cy (rR 2) 40 (eR 2), zzJ cy (rR 3) 40 (eR 3), zzJ cy (rR 4) 40 (eR 4), zzJ cy (rR 5) 40 (eR 5), zzJ cy (rR 6) 40 (eR 6), zzJ cy (rR 7) 40 (eR 7), zzJ cy qmv 40 gMv, zzI cy qmr 8 fX_51]) hx hb hr hlocks rfl (hP.sub [13, 0, 1, 2, 3, 4, 5, 6, 7, 8, 9, 10, 11, 12, 14] rfl) (hD.sub [13, 0, 1, 2, 3, 4, 5, 6, 7, 8, 9, 10, 11, 12, 14] (by decide +kernel) rfl) hS ⟨eR, gMv, fX_51, rfl, Or.inl ⟨rfl, Or.inr ⟨k_4, k_11, by omega, by omega, rfl, rfl, c_15, c_20, c_26, c_31, (fun h1 h2 => absurd h1 c_25), (fun q => q.2.2.2.1 c_47)⟩, rfl⟩, trivial⟩ dX6_copy_187
                      · refine lv_iload hx hb dX6_copy_143 (lv_at hl 5 rfl) ?_
                        refine lv_aload_n hx hb dX6_copy_145 rfl (lv_at hl 0 rfl) ?_
                        refine va_get (D := G) (ci := 5) (v := .ref qmz) (C := RX6) (T := TX6) (N := 35) hx hb hts iX_X6 hown hK hP 0 rfl rfl 2 (by decide) (hts _ m_t852) (fun _ h9 => h9) rfl dX6_copy_146 ?_
                        refine lv_iload_n hx hb dX6_copy_149 rfl (lv_at hl 2 rfl) ?_
                        refine va_iald hx hb hK hP 3 0 rfl rfl (in_shelf h_10) dX6_copy_150 ?_
                        refine lv_seti (v := fMz k_11) (congrArg fMz (cl8 (by omega))) ?_
                        refine lv_icmp_gt (tgt := 181) hx hb dX6_copy_151 (by decide) (fun c_52 => ?_) (fun c_52 => ?_)
                        · refine lv_aload_n hx hb dX6_copy_181 rfl (lv_at hl 0 rfl) ?_
                          refine lv_bipush (v := (-2)) hx hb dX6_copy_182 (by decide) ?_
                          refine cVi (As := [.int (-2)]) (rest := []) (b := qm) (q := (RX6, TX6, 35)) ⟨hx, hb, hml, hown, hts⟩ (c_X6_refuse2 l G cy (s.heap).size qm (.ref qmh) (.ref qmo) (.ref qmz) (.ref qmR) (.ref qmv) (.ref qmk) (.ref qma) (.ref qmt) (.int (nI kZ)) qmr tA qmB qmO qmK iEn iTk (ov uP) (ov uU) (.int (nI kAt)) (.int iTo) (.int iFr) (.long JFi) (.int iFa) (.ref qm3) (.int iSt) iLv iWs vLa (.ref qmu) (.ref qmy) (.ref qmb) (.ref qms) (.int iOm) fMr) L_X6_91 hN hP hD hS hA [0, 14] [false, true, true, true, true, true, true, true, true, true, true, true, true, true, false] rfl (by decide +kernel) rfl 0 5 rfl rfl rfl ⟨Nat.le_of_ble_eq_true rfl, Nat.le_of_ble_eq_true rfl⟩ hl.1 (Nat.le_of_ble_eq_true rfl) dX6_copy_184 ⟨Nat.le_of_ble_eq_true rfl, Nat.le_of_ble_eq_true rfl⟩ (fun r_53 u_55 H locs h_54 => ?_)
                          clear hP hD hS
                          intro hP hD hS
                          obtain ⟨fX_56, rfl, h_54⟩ := h_54
                          have hPD := pd_as [zzI cy qmh 8 fMh, zzI cy qmo 8 fMo, zzI cy qmz 8 fMz, zzG cy 4 qmR rR, zzJ cy (rR 0) 40 (eR 0), zzJ cy (rR 1) 40 (eR 1), zzJ cy (rR 2) 40 (eR 2), zzJ cy (rR 3) 40 (eR 3), zzJ cy (rR 4) 40 (eR 4), zzJ cy (rR 5) 40 (eR 5), zzJ cy (rR 6) 40 (eR 6), zzJ cy (rR 7) 40 (eR 7), zzJ cy qmv 40 gMv, zzO qm 5 [.ref qmh, .ref qmo, .ref qmz, .ref qmR, .ref qmv, .ref qmk, .ref qma, .ref qmt, .int (nI kZ), .ref qmr, .int (nI (T_nb tA)), .ref qmB, .int (nI (T_np tA)), .ref qmO, .ref qmK, .int iEn, .int iTk, .int (T_sd tA), ov uP, ov uU, .int (nI kAt), .int iTo, .int iFr, .long JFi, .int iFa, .ref qm3, .int iSt, .int iLv, .int iWs, vLa, .ref qmu, .ref qmy, .ref qmb, .ref qms, .int iOm], zzI cy qmr 8 fX_56] hP hD rfl
                          clear hP hD
                          obtain ⟨hP, hD⟩ := hPD
                          subst h_54
                          exact endW (u := [zzO qm 5 [.ref qmh, .ref qmo, .ref qmz, .ref qmR, .ref qmv, .ref qmk, .ref qma, .ref qmt, .int (nI kZ), .ref qmr, .int (nI (T_nb tA)), .ref qmB, .int (nI (T_np tA)), .ref qmO, .ref qmK, .int iEn, .int iTk, .int (T_sd tA), ov uP, ov uU, .int (nI kAt), .int iTo, .int iFr, .long JFi, .int iFa, .ref qm3, .int iSt, .int iLv, .int iWs, vLa, .ref qmu, .ref qmy, .ref qmb, .ref qms, .int iOm], zzI cy qmh 8 fMh, zzI cy qmo 8 fMo, zzI cy qmz 8 fMz, zzG cy 4 qmR rR, zzJ cy (rR 0) 40 (eR 0), zzJ cy (rR 1) 40 (eR 1), zzJ cy (rR 2) 40 (eR 2), zzJ cy (rR 3) 40 (eR 3), zzJ cy (rR 4) 40 (eR 4), zzJ cy (rR 5) 40 (eR 5), zzJ cy (rR 6) 40 (eR 6), zzJ cy (rR 7) 40 (eR 7), zzJ cy qmv 40 gMv, zzI cy qmr 8 fX_56]) hx hb hr hlocks rfl (hP.sub [13, 0, 1, 2, 3, 4, 5, 6, 7, 8, 9, 10, 11, 12, 14] rfl) (hD.sub [13, 0, 1, 2, 3, 4, 5, 6, 7, 8, 9, 10, 11, 12, 14] (by decide +kernel) rfl) hS ⟨eR, gMv, fX_56, rfl, Or.inl ⟨rfl, Or.inr ⟨k_4, k_11, by omega, by omega, rfl, rfl, c_15, c_20, c_26, c_31, (fun h1 h2 => absurd h1 c_25), (fun q => q.2.2.2.2.1 c_52)⟩, rfl⟩, trivial⟩ dX6_copy_187
                        · refine lv_iload_n hx hb dX6_copy_154 rfl (lv_at hl 3 rfl) ?_
                          refine lv_aload_n hx hb dX6_copy_155 rfl (lv_at hl 0 rfl) ?_
                          refine va_get (D := G) (ci := 5) (v := .ref qmz) (C := RX6) (T := TX6) (N := 35) hx hb hts iX_X6 hown hK hP 0 rfl rfl 2 (by decide) (hts _ m_t852) (fun _ h9 => h9) rfl dX6_copy_156 ?_
                          refine lv_iload_n hx hb dX6_copy_159 rfl (lv_at hl 1 rfl) ?_
                          refine va_iald hx hb hK hP 3 0 rfl rfl (in_shelf h_3) dX6_copy_160 ?_
                          refine lv_seti (v := fMz k_4) (congrArg fMz (cl8 (by omega))) ?_
                          refine lv_iload hx hb dX6_copy_161 (lv_at hl 5 rfl) ?_
                          refine lv_isub hx hb dX6_copy_163 ?_
                          refine lv_icmp_gt (tgt := 181) hx hb dX6_copy_164 (by decide) (fun c_57 => ?_) (fun c_57 => ?_)
                          · refine lv_aload_n hx hb dX6_copy_181 rfl (lv_at hl 0 rfl) ?_
                            refine lv_bipush (v := (-2)) hx hb dX6_copy_182 (by decide) ?_
                            refine cVi (As := [.int (-2)]) (rest := []) (b := qm) (q := (RX6, TX6, 35)) ⟨hx, hb, hml, hown, hts⟩ (c_X6_refuse2 l G cy (s.heap).size qm (.ref qmh) (.ref qmo) (.ref qmz) (.ref qmR) (.ref qmv) (.ref qmk) (.ref qma) (.ref qmt) (.int (nI kZ)) qmr tA qmB qmO qmK iEn iTk (ov uP) (ov uU) (.int (nI kAt)) (.int iTo) (.int iFr) (.long JFi) (.int iFa) (.ref qm3) (.int iSt) iLv iWs vLa (.ref qmu) (.ref qmy) (.ref qmb) (.ref qms) (.int iOm) fMr) L_X6_91 hN hP hD hS hA [0, 14] [false, true, true, true, true, true, true, true, true, true, true, true, true, true, false] rfl (by decide +kernel) rfl 0 5 rfl rfl rfl ⟨Nat.le_of_ble_eq_true rfl, Nat.le_of_ble_eq_true rfl⟩ hl.1 (Nat.le_of_ble_eq_true rfl) dX6_copy_184 ⟨Nat.le_of_ble_eq_true rfl, Nat.le_of_ble_eq_true rfl⟩ (fun r_58 u_60 H locs h_59 => ?_)
                            clear hP hD hS
                            intro hP hD hS
                            obtain ⟨fX_61, rfl, h_59⟩ := h_59
                            have hPD := pd_as [zzI cy qmh 8 fMh, zzI cy qmo 8 fMo, zzI cy qmz 8 fMz, zzG cy 4 qmR rR, zzJ cy (rR 0) 40 (eR 0), zzJ cy (rR 1) 40 (eR 1), zzJ cy (rR 2) 40 (eR 2), zzJ cy (rR 3) 40 (eR 3), zzJ cy (rR 4) 40 (eR 4), zzJ cy (rR 5) 40 (eR 5), zzJ cy (rR 6) 40 (eR 6), zzJ cy (rR 7) 40 (eR 7), zzJ cy qmv 40 gMv, zzO qm 5 [.ref qmh, .ref qmo, .ref qmz, .ref qmR, .ref qmv, .ref qmk, .ref qma, .ref qmt, .int (nI kZ), .ref qmr, .int (nI (T_nb tA)), .ref qmB, .int (nI (T_np tA)), .ref qmO, .ref qmK, .int iEn, .int iTk, .int (T_sd tA), ov uP, ov uU, .int (nI kAt), .int iTo, .int iFr, .long JFi, .int iFa, .ref qm3, .int iSt, .int iLv, .int iWs, vLa, .ref qmu, .ref qmy, .ref qmb, .ref qms, .int iOm], zzI cy qmr 8 fX_61] hP hD rfl
                            clear hP hD
                            obtain ⟨hP, hD⟩ := hPD
                            subst h_59
                            exact endW (u := [zzO qm 5 [.ref qmh, .ref qmo, .ref qmz, .ref qmR, .ref qmv, .ref qmk, .ref qma, .ref qmt, .int (nI kZ), .ref qmr, .int (nI (T_nb tA)), .ref qmB, .int (nI (T_np tA)), .ref qmO, .ref qmK, .int iEn, .int iTk, .int (T_sd tA), ov uP, ov uU, .int (nI kAt), .int iTo, .int iFr, .long JFi, .int iFa, .ref qm3, .int iSt, .int iLv, .int iWs, vLa, .ref qmu, .ref qmy, .ref qmb, .ref qms, .int iOm], zzI cy qmh 8 fMh, zzI cy qmo 8 fMo, zzI cy qmz 8 fMz, zzG cy 4 qmR rR, zzJ cy (rR 0) 40 (eR 0), zzJ cy (rR 1) 40 (eR 1), zzJ cy (rR 2) 40 (eR 2), zzJ cy (rR 3) 40 (eR 3), zzJ cy (rR 4) 40 (eR 4), zzJ cy (rR 5) 40 (eR 5), zzJ cy (rR 6) 40 (eR 6), zzJ cy (rR 7) 40 (eR 7), zzJ cy qmv 40 gMv, zzI cy qmr 8 fX_61]) hx hb hr hlocks rfl (hP.sub [13, 0, 1, 2, 3, 4, 5, 6, 7, 8, 9, 10, 11, 12, 14] rfl) (hD.sub [13, 0, 1, 2, 3, 4, 5, 6, 7, 8, 9, 10, 11, 12, 14] (by decide +kernel) rfl) hS ⟨eR, gMv, fX_61, rfl, Or.inl ⟨rfl, Or.inr ⟨k_4, k_11, by omega, by omega, rfl, rfl, c_15, c_20, c_26, c_31, (fun h1 h2 => absurd h1 c_25), (fun q => q.2.2.2.2.2.1 c_57)⟩, rfl⟩, trivial⟩ dX6_copy_187
                          · refine lv_iload hx hb dX6_copy_167 (lv_at hl 4 rfl) ?_
                            refine lv_aload_n hx hb dX6_copy_169 rfl (lv_at hl 0 rfl) ?_
                            refine va_get (D := G) (ci := 5) (v := .ref qmz) (C := RX6) (T := TX6) (N := 35) hx hb hts iX_X6 hown hK hP 0 rfl rfl 2 (by decide) (hts _ m_t852) (fun _ h9 => h9) rfl dX6_copy_170 ?_
                            refine lv_iload_n hx hb dX6_copy_173 rfl (lv_at hl 2 rfl) ?_
                            refine va_iald hx hb hK hP 3 0 rfl rfl (in_shelf h_10) dX6_copy_174 ?_
                            refine lv_seti (v := fMz k_11) (congrArg fMz (cl8 (by omega))) ?_
                            refine lv_iload hx hb dX6_copy_175 (lv_at hl 5 rfl) ?_
                            refine lv_isub hx hb dX6_copy_177 ?_
                            refine lv_icmp_le (tgt := 188) hx hb dX6_copy_178 (by decide) (fun c_62 => ?_) (fun c_62 => ?_)
                            · obtain ⟨n_63, hn_64, en_65⟩ := hSz k_4 (by omega)
                              obtain ⟨n_66, hn_67, en_68⟩ := hSz k_11 (by omega)
                              obtain ⟨k_69, k_70, k_71, hk_72, hk_73, rfl, rfl, rfl⟩ := cp_of en_65 hn_64 en_68 hn_67 c_32 c_37 c_42 c_47 c_52 c_57 c_62
                              refine lv_iconst (v := 0) hx hb dX6_copy_188 (by decide) ?_
                              refine lv_istore (lv' := [(6, .int 0), (0, .ref qm), (1, .int (nI k_4)), (2, .int (nI k_11)), (3, .int (nI k_69)), (4, .int (nI k_71)), (5, .int (nI k_70))]) hx hb dX6_copy_189 hl (by decide) rfl (fun ls => ?_)
                              clear hl
                              intro hl
                              have lp_74 : ∀ (n_75 : Nat) (m_77 : Nat) (gJ_78 : Nat → Int64), 40 - m_77 < n_75 → m_77 ≤ k_70 → (∀ x, x < m_77 → gJ_78 x = eR k_4 (k_69 + x)) → ∀ (H : Heap) (locs : List Loc) (ls : Array Slot), va_P G CL [zzO qm 5 [.ref qmh, .ref qmo, .ref qmz, .ref qmR, .ref qmv, .ref qmk, .ref qma, .ref qmt, .int (nI kZ), .ref qmr, .int (nI (T_nb tA)), .ref qmB, .int (nI (T_np tA)), .ref qmO, .ref qmK, .int iEn, .int iTk, .int (T_sd tA), ov uP, ov uU, .int (nI kAt), .int iTo, .int iFr, .long JFi, .int iFa, .ref qm3, .int iSt, .int iLv, .int iWs, vLa, .ref qmu, .ref qmy, .ref qmb, .ref qms, .int iOm], zzI cy qmh 8 fMh, zzI cy qmo 8 fMo, zzI cy qmz 8 fMz, zzG cy 4 qmR rR, zzJ cy (rR 0) 40 (eR 0), zzJ cy (rR 1) 40 (eR 1), zzJ cy (rR 2) 40 (eR 2), zzJ cy (rR 3) 40 (eR 3), zzJ cy (rR 4) 40 (eR 4), zzJ cy (rR 5) 40 (eR 5), zzJ cy (rR 6) 40 (eR 6), zzJ cy (rR 7) 40 (eR 7), zzJ cy qmv 40 gJ_78, zzI cy qmr 8 fMr] H → va_D A [zzO qm 5 [.ref qmh, .ref qmo, .ref qmz, .ref qmR, .ref qmv, .ref qmk, .ref qma, .ref qmt, .int (nI kZ), .ref qmr, .int (nI (T_nb tA)), .ref qmB, .int (nI (T_np tA)), .ref qmO, .ref qmK, .int iEn, .int iTk, .int (T_sd tA), ov uP, ov uU, .int (nI kAt), .int iTo, .int iFr, .long JFi, .int iFa, .ref qm3, .int iSt, .int iLv, .int iWs, vLa, .ref qmu, .ref qmy, .ref qmb, .ref qms, .int iOm], zzI cy qmh 8 fMh, zzI cy qmo 8 fMo, zzI cy qmz 8 fMz, zzG cy 4 qmR rR, zzJ cy (rR 0) 40 (eR 0), zzJ cy (rR 1) 40 (eR 1), zzJ cy (rR 2) 40 (eR 2), zzJ cy (rR 3) 40 (eR 3), zzJ cy (rR 4) 40 (eR 4), zzJ cy (rR 5) 40 (eR 5), zzJ cy (rR 6) 40 (eR 6), zzJ cy (rR 7) 40 (eR 7), zzJ cy qmv 40 gJ_78, zzI cy qmr 8 fMr] → va_S A s.heap H locs → lv_has ls 7 [(6, .int (nI m_77)), (0, .ref qm), (1, .int (nI k_4)), (2, .int (nI k_11)), (3, .int (nI k_69)), (4, .int (nI k_71)), (5, .int (nI k_70))] → W p l e (Rm 16 0 0) s m (List.toArray (α := Value) [.ref qm, .int (nI k_4), .int (nI k_11), .int (nI k_69), .int (nI k_71), .int (nI k_70)]) below meth c H locs 0 0 (MQ below ((Wi G (fun r u => ∃ (eN : Nat → Nat → Int64) (gNv : Nat → Int64) (fNr : Nat → Int32), u = [zzO qm 5 [.ref qmh, .ref qmo, .ref qmz, .ref qmR, .ref qmv, .ref qmk, .ref qma, .ref qmt, .int (nI kZ), .ref qmr, .int (nI (T_nb tA)), .ref qmB, .int (nI (T_np tA)), .ref qmO, .ref qmK, .int iEn, .int iTk, .int (T_sd tA), ov uP, ov uU, .int (nI kAt), .int iTo, .int iFr, .long JFi, .int iFa, .ref qm3, .int iSt, .int iLv, .int iWs, vLa, .ref qmu, .ref qmy, .ref qmb, .ref qms, .int iOm], zzI cy qmh 8 fMh, zzI cy qmo 8 fMo, zzI cy qmz 8 fMz, zzG cy 4 qmR rR, zzJ cy (rR 0) 40 (eN 0), zzJ cy (rR 1) 40 (eN 1), zzJ cy (rR 2) 40 (eN 2), zzJ cy (rR 3) 40 (eN 3), zzJ cy (rR 4) 40 (eN 4), zzJ cy (rR 5) 40 (eN 5), zzJ cy (rR 6) 40 (eN 6), zzJ cy (rR 7) 40 (eN 7), zzJ cy qmv 40 gNv, zzI cy qmr 8 fNr] ∧ (PMcopy fMh fMo fMz eR (nI k_4) (nI k_11) (nI k_69) (nI k_71) (nI k_70) r eN) ∧ (True))) A) (List.toArray (α := Value) [.ref qm, .int (nI k_4), .int (nI k_11), .int (nI k_69), .int (nI k_71), .int (nI k_70)]) s 0 0 A) (F0 m 191 ls []) := by
                                intro n_75
                                induction n_75 with
                                | zero => intro m_77 gJ_78 hm9; exact absurd hm9 (Nat.not_lt_zero _)
                                | succ n_75 ih_76 =>
                                  intro m_77 gJ_78 hm_81 hm_81 hg_80 H locs ls hP hD hS hl
                                  refine lv_iload hx hb dX6_copy_191 (lv_at hl 0 rfl) ?_
                                  refine lv_iload hx hb dX6_copy_193 (lv_at hl 6 rfl) ?_
                                  refine lv_icmp_ge (tgt := 222) hx hb dX6_copy_195 (by decide) (fun c_82 => ?_) (fun c_82 => ?_)
                                  · have hlt_83 : m_77 = k_70 := Nat.le_antisymm (by omega) (lp_ge rfl rfl (by omega) (by omega) c_82)
                                    refine lv_iconst (v := 0) hx hb dX6_copy_222 (by decide) ?_
                                    refine lv_istore (lv' := [(6, .int 0), (0, .ref qm), (1, .int (nI k_4)), (2, .int (nI k_11)), (3, .int (nI k_69)), (4, .int (nI k_71)), (5, .int (nI k_70))]) hx hb dX6_copy_223 hl (by decide) rfl (fun ls => ?_)
                                    clear hl
                                    intro hl
                                    have lp_84 : ∀ (n_85 : Nat) (n_87 : Nat) (eJ_88 : Nat → Nat → Int64), 40 - n_87 < n_85 → n_87 ≤ k_70 → (∀ s x, eJ_88 s x = if s = k_11 ∧ k_71 ≤ x ∧ x < k_71 + n_87 then eR k_4 (k_69 + (x - k_71)) else eR s x) → ∀ (H : Heap) (locs : List Loc) (ls : Array Slot), va_P G CL [zzO qm 5 [.ref qmh, .ref qmo, .ref qmz, .ref qmR, .ref qmv, .ref qmk, .ref qma, .ref qmt, .int (nI kZ), .ref qmr, .int (nI (T_nb tA)), .ref qmB, .int (nI (T_np tA)), .ref qmO, .ref qmK, .int iEn, .int iTk, .int (T_sd tA), ov uP, ov uU, .int (nI kAt), .int iTo, .int iFr, .long JFi, .int iFa, .ref qm3, .int iSt, .int iLv, .int iWs, vLa, .ref qmu, .ref qmy, .ref qmb, .ref qms, .int iOm], zzI cy qmh 8 fMh, zzI cy qmo 8 fMo, zzI cy qmz 8 fMz, zzG cy 4 qmR rR, zzJ cy (rR 0) 40 (eJ_88 0), zzJ cy (rR 1) 40 (eJ_88 1), zzJ cy (rR 2) 40 (eJ_88 2), zzJ cy (rR 3) 40 (eJ_88 3), zzJ cy (rR 4) 40 (eJ_88 4), zzJ cy (rR 5) 40 (eJ_88 5), zzJ cy (rR 6) 40 (eJ_88 6), zzJ cy (rR 7) 40 (eJ_88 7), zzJ cy qmv 40 gJ_78, zzI cy qmr 8 fMr] H → va_D A [zzO qm 5 [.ref qmh, .ref qmo, .ref qmz, .ref qmR, .ref qmv, .ref qmk, .ref qma, .ref qmt, .int (nI kZ), .ref qmr, .int (nI (T_nb tA)), .ref qmB, .int (nI (T_np tA)), .ref qmO, .ref qmK, .int iEn, .int iTk, .int (T_sd tA), ov uP, ov uU, .int (nI kAt), .int iTo, .int iFr, .long JFi, .int iFa, .ref qm3, .int iSt, .int iLv, .int iWs, vLa, .ref qmu, .ref qmy, .ref qmb, .ref qms, .int iOm], zzI cy qmh 8 fMh, zzI cy qmo 8 fMo, zzI cy qmz 8 fMz, zzG cy 4 qmR rR, zzJ cy (rR 0) 40 (eJ_88 0), zzJ cy (rR 1) 40 (eJ_88 1), zzJ cy (rR 2) 40 (eJ_88 2), zzJ cy (rR 3) 40 (eJ_88 3), zzJ cy (rR 4) 40 (eJ_88 4), zzJ cy (rR 5) 40 (eJ_88 5), zzJ cy (rR 6) 40 (eJ_88 6), zzJ cy (rR 7) 40 (eJ_88 7), zzJ cy qmv 40 gJ_78, zzI cy qmr 8 fMr] → va_S A s.heap H locs → lv_has ls 7 [(6, .int (nI n_87)), (0, .ref qm), (1, .int (nI k_4)), (2, .int (nI k_11)), (3, .int (nI k_69)), (4, .int (nI k_71)), (5, .int (nI k_70))] → W p l e (Rm 16 0 0) s m (List.toArray (α := Value) [.ref qm, .int (nI k_4), .int (nI k_11), .int (nI k_69), .int (nI k_71), .int (nI k_70)]) below meth c H locs 0 0 (MQ below ((Wi G (fun r u => ∃ (eN : Nat → Nat → Int64) (gNv : Nat → Int64) (fNr : Nat → Int32), u = [zzO qm 5 [.ref qmh, .ref qmo, .ref qmz, .ref qmR, .ref qmv, .ref qmk, .ref qma, .ref qmt, .int (nI kZ), .ref qmr, .int (nI (T_nb tA)), .ref qmB, .int (nI (T_np tA)), .ref qmO, .ref qmK, .int iEn, .int iTk, .int (T_sd tA), ov uP, ov uU, .int (nI kAt), .int iTo, .int iFr, .long JFi, .int iFa, .ref qm3, .int iSt, .int iLv, .int iWs, vLa, .ref qmu, .ref qmy, .ref qmb, .ref qms, .int iOm], zzI cy qmh 8 fMh, zzI cy qmo 8 fMo, zzI cy qmz 8 fMz, zzG cy 4 qmR rR, zzJ cy (rR 0) 40 (eN 0), zzJ cy (rR 1) 40 (eN 1), zzJ cy (rR 2) 40 (eN 2), zzJ cy (rR 3) 40 (eN 3), zzJ cy (rR 4) 40 (eN 4), zzJ cy (rR 5) 40 (eN 5), zzJ cy (rR 6) 40 (eN 6), zzJ cy (rR 7) 40 (eN 7), zzJ cy qmv 40 gNv, zzI cy qmr 8 fNr] ∧ (PMcopy fMh fMo fMz eR (nI k_4) (nI k_11) (nI k_69) (nI k_71) (nI k_70) r eN) ∧ (True))) A) (List.toArray (α := Value) [.ref qm, .int (nI k_4), .int (nI k_11), .int (nI k_69), .int (nI k_71), .int (nI k_70)]) s 0 0 A) (F0 m 225 ls []) := by
                                      intro n_85
                                      induction n_85 with
                                      | zero => intro n_87 eJ_88 hm9; exact absurd hm9 (Nat.not_lt_zero _)
                                      | succ n_85 ih_86 =>
                                        intro n_87 eJ_88 hm_91 hn_89 he_90 H locs ls hP hD hS hl
                                        refine lv_iload hx hb dX6_copy_225 (lv_at hl 0 rfl) ?_
                                        refine lv_iload hx hb dX6_copy_227 (lv_at hl 6 rfl) ?_
                                        refine lv_icmp_ge (tgt := 257) hx hb dX6_copy_229 (by decide) (fun c_92 => ?_) (fun c_92 => ?_)
                                        · have hlt_93 : n_87 = k_70 := Nat.le_antisymm (by omega) (lp_ge rfl rfl (by omega) (by omega) c_92)
                                          refine lv_iload hx hb dX6_copy_257 (lv_at hl 6 rfl) ?_
                                          exact endW (u := [zzO qm 5 [.ref qmh, .ref qmo, .ref qmz, .ref qmR, .ref qmv, .ref qmk, .ref qma, .ref qmt, .int (nI kZ), .ref qmr, .int (nI (T_nb tA)), .ref qmB, .int (nI (T_np tA)), .ref qmO, .ref qmK, .int iEn, .int iTk, .int (T_sd tA), ov uP, ov uU, .int (nI kAt), .int iTo, .int iFr, .long JFi, .int iFa, .ref qm3, .int iSt, .int iLv, .int iWs, vLa, .ref qmu, .ref qmy, .ref qmb, .ref qms, .int iOm], zzI cy qmh 8 fMh, zzI cy qmo 8 fMo, zzI cy qmz 8 fMz, zzG cy 4 qmR rR, zzJ cy (rR 0) 40 (eJ_88 0), zzJ cy (rR 1) 40 (eJ_88 1), zzJ cy (rR 2) 40 (eJ_88 2), zzJ cy (rR 3) 40 (eJ_88 3), zzJ cy (rR 4) 40 (eJ_88 4), zzJ cy (rR 5) 40 (eJ_88 5), zzJ cy (rR 6) 40 (eJ_88 6), zzJ cy (rR 7) 40 (eJ_88 7), zzJ cy qmv 40 gJ_78, zzI cy qmr 8 fMr]) hx hb hr hlocks rfl (hP.sub [0, 1, 2, 3, 4, 5, 6, 7, 8, 9, 10, 11, 12, 13, 14] rfl) (hD.sub [0, 1, 2, 3, 4, 5, 6, 7, 8, 9, 10, 11, 12, 13, 14] (by decide +kernel) rfl) hS ⟨eJ_88, gJ_78, fMr, rfl, Or.inr (Or.inr (Or.inr ⟨rfl, k_4, k_11, k_69, k_71, k_70, by omega, by omega, rfl, rfl, c_15, c_20, c_26, c_31, (fun h1 h2 => absurd h1 c_25), rfl, rfl, rfl, by omega, by omega, ⟨c_32, c_37, c_42, c_47, c_52, c_57, c_62⟩, by have := he_90; rw [hlt_93] at this; exact this⟩)), trivial⟩ dX6_copy_259
                                        · have hlt_94 : n_87 < k_70 := lp_lt rfl rfl (by omega) (by omega) c_92
                                          refine lv_aload_n hx hb dX6_copy_232 rfl (lv_at hl 1 rfl) ?_
                                          refine va_get (D := G) (ci := 5) (v := .ref qmR) (C := RX6) (T := TX6) (N := 35) hx hb hts iX_X6 hown hK hP 0 rfl rfl 3 (by decide) (hts _ m_t853) (fun _ h9 => h9) rfl dX6_copy_233 ?_
                                          refine lv_iload_n hx hb dX6_copy_236 rfl (lv_at hl 3 rfl) ?_
                                          refine va_alda hx hb hK hP 4 4 rfl rfl (in_shelf h_10) dX6_copy_237 ?_
                                          refine lv_setv (v := .ref (rR k_11)) (g_ref (by omega)) ?_
                                          refine lv_iload hx hb dX6_copy_238 (lv_at hl 5 rfl) ?_
                                          refine lv_iload hx hb dX6_copy_240 (lv_at hl 0 rfl) ?_
                                          refine lv_iadd hx hb dX6_copy_242 ?_
                                          refine lv_seti (v := nI (k_71 + n_87)) (nI_add _ _) ?_
                                          refine lv_aload_n hx hb dX6_copy_243 rfl (lv_at hl 1 rfl) ?_
                                          refine va_get (D := G) (ci := 5) (v := .ref qmv) (C := RX6) (T := TX6) (N := 35) hx hb hts iX_X6 hown hK hP 0 rfl rfl 4 (by decide) (hts _ m_t854) (fun _ h9 => h9) rfl dX6_copy_244 ?_
                                          refine lv_iload hx hb dX6_copy_247 (lv_at hl 0 rfl) ?_
                                          refine va_lald hx hb hK hP 13 1 rfl rfl (vp_in_nI (by omega) (by omega)) dX6_copy_249 ?_
                                          refine lv_setl (v := gJ_78 n_87) (congrArg gJ_78 (nI_clamp (by omega))) ?_
                                          refine va_last hx hb hK hP hD hS (5 + k_11) 1 ((sg8 (n0 := 5) (f := (fun j => zzJ cy (rR j) 40 (eJ_88 j))) rfl rfl rfl rfl rfl rfl rfl rfl) k_11 (by omega)) rfl (vp_in_nI (by omega) (by omega)) dX6_copy_250 (fun H locs => ?_)
                                          clear hP hD hS
                                          intro hP hD hS
                                          rw [nI_clamp (n := (k_71 + n_87)) (by omega)] at hP hD
                                          have e8 := set8 (k := k_11) (ws := [zzO qm 5 [.ref qmh, .ref qmo, .ref qmz, .ref qmR, .ref qmv, .ref qmk, .ref qma, .ref qmt, .int (nI kZ), .ref qmr, .int (nI (T_nb tA)), .ref qmB, .int (nI (T_np tA)), .ref qmO, .ref qmK, .int iEn, .int iTk, .int (T_sd tA), ov uP, ov uU, .int (nI kAt), .int iTo, .int iFr, .long JFi, .int iFa, .ref qm3, .int iSt, .int iLv, .int iWs, vLa, .ref qmu, .ref qmy, .ref qmb, .ref qms, .int iOm], zzI cy qmh 8 fMh, zzI cy qmo 8 fMo, zzI cy qmz 8 fMz, zzG cy 4 qmR rR, zzJ cy (rR 0) 40 (eJ_88 0), zzJ cy (rR 1) 40 (eJ_88 1), zzJ cy (rR 2) 40 (eJ_88 2), zzJ cy (rR 3) 40 (eJ_88 3), zzJ cy (rR 4) 40 (eJ_88 4), zzJ cy (rR 5) 40 (eJ_88 5), zzJ cy (rR 6) 40 (eJ_88 6), zzJ cy (rR 7) 40 (eJ_88 7), zzJ cy qmv 40 gJ_78, zzI cy qmr 8 fMr]) (ws' := [zzO qm 5 [.ref qmh, .ref qmo, .ref qmz, .ref qmR, .ref qmv, .ref qmk, .ref qma, .ref qmt, .int (nI kZ), .ref qmr, .int (nI (T_nb tA)), .ref qmB, .int (nI (T_np tA)), .ref qmO, .ref qmK, .int iEn, .int iTk, .int (T_sd tA), ov uP, ov uU, .int (nI kAt), .int iTo, .int iFr, .long JFi, .int iFa, .ref qm3, .int iSt, .int iLv, .int iWs, vLa, .ref qmu, .ref qmy, .ref qmb, .ref qms, .int iOm], zzI cy qmh 8 fMh, zzI cy qmo 8 fMo, zzI cy qmz 8 fMz, zzG cy 4 qmR rR, zzJ cy (rR 0) 40 (updN eJ_88 k_11 (k_71 + n_87) (gJ_78 n_87) 0), zzJ cy (rR 1) 40 (updN eJ_88 k_11 (k_71 + n_87) (gJ_78 n_87) 1), zzJ cy (rR 2) 40 (updN eJ_88 k_11 (k_71 + n_87) (gJ_78 n_87) 2), zzJ cy (rR 3) 40 (updN eJ_88 k_11 (k_71 + n_87) (gJ_78 n_87) 3), zzJ cy (rR 4) 40 (updN eJ_88 k_11 (k_71 + n_87) (gJ_78 n_87) 4), zzJ cy (rR 5) 40 (updN eJ_88 k_11 (k_71 + n_87) (gJ_78 n_87) 5), zzJ cy (rR 6) 40 (updN eJ_88 k_11 (k_71 + n_87) (gJ_78 n_87) 6), zzJ cy (rR 7) 40 (updN eJ_88 k_11 (k_71 + n_87) (gJ_78 n_87) 7), zzJ cy qmv 40 gJ_78, zzI cy qmr 8 fMr]) (sg8 (n0 := 5) (f := (fun j => zzJ cy (rR j) 40 (eJ_88 j))) rfl rfl rfl rfl rfl rfl rfl rfl) (sg8 (n0 := 5) (f := (fun j => zzJ cy (rR j) 40 (updN eJ_88 k_11 (k_71 + n_87) (gJ_78 n_87) j))) rfl rfl rfl rfl rfl rfl rfl rfl) rfl rfl (by omega) (congrArg (zzJ cy (rR k_11) 40) un_u) (fun j hj => congrArg (zzJ cy (rR j) 40) (un_n hj))
                                          rw [e8] at hP hD
                                          clear e8
                                          have hPD := pd_as [zzO qm 5 [.ref qmh, .ref qmo, .ref qmz, .ref qmR, .ref qmv, .ref qmk, .ref qma, .ref qmt, .int (nI kZ), .ref qmr, .int (nI (T_nb tA)), .ref qmB, .int (nI (T_np tA)), .ref qmO, .ref qmK, .int iEn, .int iTk, .int (T_sd tA), ov uP, ov uU, .int (nI kAt), .int iTo, .int iFr, .long JFi, .int iFa, .ref qm3, .int iSt, .int iLv, .int iWs, vLa, .ref qmu, .ref qmy, .ref qmb, .ref qms, .int iOm], zzI cy qmh 8 fMh, zzI cy qmo 8 fMo, zzI cy qmz 8 fMz, zzG cy 4 qmR rR, zzJ cy (rR 0) 40 (updN eJ_88 k_11 (k_71 + n_87) (gJ_78 n_87) 0), zzJ cy (rR 1) 40 (updN eJ_88 k_11 (k_71 + n_87) (gJ_78 n_87) 1), zzJ cy (rR 2) 40 (updN eJ_88 k_11 (k_71 + n_87) (gJ_78 n_87) 2), zzJ cy (rR 3) 40 (updN eJ_88 k_11 (k_71 + n_87) (gJ_78 n_87) 3), zzJ cy (rR 4) 40 (updN eJ_88 k_11 (k_71 + n_87) (gJ_78 n_87) 4), zzJ cy (rR 5) 40 (updN eJ_88 k_11 (k_71 + n_87) (gJ_78 n_87) 5), zzJ cy (rR 6) 40 (updN eJ_88 k_11 (k_71 + n_87) (gJ_78 n_87) 6), zzJ cy (rR 7) 40 (updN eJ_88 k_11 (k_71 + n_87) (gJ_78 n_87) 7), zzJ cy qmv 40 gJ_78, zzI cy qmr 8 fMr] hP hD rfl
                                          clear hP hD
                                          obtain ⟨hP, hD⟩ := hPD
                                          refine lv_iinc (v := nI (n_87 + 1)) (lv' := [(6, .int (nI (n_87 + 1))), (0, .ref qm), (1, .int (nI k_4)), (2, .int (nI k_11)), (3, .int (nI k_69)), (4, .int (nI k_71)), (5, .int (nI k_70))]) hx hb dX6_copy_251 hl (k := 0) rfl (nI_1 _) (by decide) rfl (fun ls => ?_)
                                          clear hl
                                          intro hl
                                          refine lv_goto (tgt := 225) hx hb dX6_copy_254 (by decide) ?_
                                          exact ih_86 (n_87 + 1) (updN eJ_88 k_11 (k_71 + n_87) (gJ_78 n_87)) (by omega) (by omega) (cp_stepN he_90 (hg_80 _ (by omega))) _ _ _ hP hD hS (lv_sub hl [0, 1, 2, 3, 4, 5, 6] rfl)
                                    exact lp_84 ((40 - 0) + 1) 0 eR (Nat.lt_succ_self _) (Nat.zero_le _) (fun s x => (if_neg (fun q => by omega)).symm) _ _ ls hP hD hS (lv_sub hl [0, 1, 2, 3, 4, 5, 6] rfl)
                                  · have hlt_95 : m_77 < k_70 := lp_lt rfl rfl (by omega) (by omega) c_82
                                    refine lv_aload_n hx hb dX6_copy_198 rfl (lv_at hl 1 rfl) ?_
                                    refine va_get (D := G) (ci := 5) (v := .ref qmv) (C := RX6) (T := TX6) (N := 35) hx hb hts iX_X6 hown hK hP 0 rfl rfl 4 (by decide) (hts _ m_t854) (fun _ h9 => h9) rfl dX6_copy_199 ?_
                                    refine lv_iload hx hb dX6_copy_202 (lv_at hl 0 rfl) ?_
                                    refine lv_aload_n hx hb dX6_copy_204 rfl (lv_at hl 1 rfl) ?_
                                    refine va_get (D := G) (ci := 5) (v := .ref qmR) (C := RX6) (T := TX6) (N := 35) hx hb hts iX_X6 hown hK hP 0 rfl rfl 3 (by decide) (hts _ m_t853) (fun _ h9 => h9) rfl dX6_copy_205 ?_
                                    refine lv_iload_n hx hb dX6_copy_208 rfl (lv_at hl 2 rfl) ?_
                                    refine va_alda hx hb hK hP 4 4 rfl rfl (in_shelf h_3) dX6_copy_209 ?_
                                    refine lv_setv (v := .ref (rR k_4)) (g_ref (by omega)) ?_
                                    refine lv_iload_n hx hb dX6_copy_210 rfl (lv_at hl 4 rfl) ?_
                                    refine lv_iload hx hb dX6_copy_211 (lv_at hl 0 rfl) ?_
                                    refine lv_iadd hx hb dX6_copy_213 ?_
                                    refine lv_seti (v := nI (k_69 + m_77)) (nI_add _ _) ?_
                                    refine va_lald hx hb hK hP (5 + k_4) 1 (sg8 (n0 := 5) (f := (fun j => zzJ cy (rR j) 40 (eR j))) rfl rfl rfl rfl rfl rfl rfl rfl k_4 (by omega)) rfl (vp_in_nI (by omega) (by omega)) dX6_copy_214 ?_
                                    refine lv_setl (v := eR k_4 (k_69 + m_77)) (congrArg (eR k_4) (nI_clamp (by omega))) ?_
                                    refine va_last hx hb hK hP hD hS 13 1 rfl rfl (vp_in_nI (by omega) (by omega)) dX6_copy_215 (fun H locs => ?_)
                                    clear hP hD hS
                                    intro hP hD hS
                                    rw [nI_clamp (n := m_77) (by omega)] at hP hD
                                    have hPD := pd_as [zzO qm 5 [.ref qmh, .ref qmo, .ref qmz, .ref qmR, .ref qmv, .ref qmk, .ref qma, .ref qmt, .int (nI kZ), .ref qmr, .int (nI (T_nb tA)), .ref qmB, .int (nI (T_np tA)), .ref qmO, .ref qmK, .int iEn, .int iTk, .int (T_sd tA), ov uP, ov uU, .int (nI kAt), .int iTo, .int iFr, .long JFi, .int iFa, .ref qm3, .int iSt, .int iLv, .int iWs, vLa, .ref qmu, .ref qmy, .ref qmb, .ref qms, .int iOm], zzI cy qmh 8 fMh, zzI cy qmo 8 fMo, zzI cy qmz 8 fMz, zzG cy 4 qmR rR, zzJ cy (rR 0) 40 (eR 0), zzJ cy (rR 1) 40 (eR 1), zzJ cy (rR 2) 40 (eR 2), zzJ cy (rR 3) 40 (eR 3), zzJ cy (rR 4) 40 (eR 4), zzJ cy (rR 5) 40 (eR 5), zzJ cy (rR 6) 40 (eR 6), zzJ cy (rR 7) 40 (eR 7), zzJ cy qmv 40 (vp_updL gJ_78 m_77 (eR k_4 (k_69 + m_77))), zzI cy qmr 8 fMr] hP hD rfl
                                    clear hP hD
                                    obtain ⟨hP, hD⟩ := hPD
                                    refine lv_iinc (v := nI (m_77 + 1)) (lv' := [(6, .int (nI (m_77 + 1))), (0, .ref qm), (1, .int (nI k_4)), (2, .int (nI k_11)), (3, .int (nI k_69)), (4, .int (nI k_71)), (5, .int (nI k_70))]) hx hb dX6_copy_216 hl (k := 0) rfl (nI_1 _) (by decide) rfl (fun ls => ?_)
                                    clear hl
                                    intro hl
                                    refine lv_goto (tgt := 191) hx hb dX6_copy_219 (by decide) ?_
                                    exact ih_76 (m_77 + 1) (vp_updL gJ_78 m_77 (eR k_4 (k_69 + m_77))) (by omega) (by omega) (cp_stepL hg_80) _ _ _ hP hD hS (lv_sub hl [0, 1, 2, 3, 4, 5, 6] rfl)
                              exact lp_74 ((40 - 0) + 1) 0 gMv (Nat.lt_succ_self _) (Nat.zero_le _) (fun x h => absurd h (Nat.not_lt_zero _)) _ _ ls hP hD hS (lv_sub hl [0, 1, 2, 3, 4, 5, 6] rfl)
                            · refine lv_aload_n hx hb dX6_copy_181 rfl (lv_at hl 0 rfl) ?_
                              refine lv_bipush (v := (-2)) hx hb dX6_copy_182 (by decide) ?_
                              refine cVi (As := [.int (-2)]) (rest := []) (b := qm) (q := (RX6, TX6, 35)) ⟨hx, hb, hml, hown, hts⟩ (c_X6_refuse2 l G cy (s.heap).size qm (.ref qmh) (.ref qmo) (.ref qmz) (.ref qmR) (.ref qmv) (.ref qmk) (.ref qma) (.ref qmt) (.int (nI kZ)) qmr tA qmB qmO qmK iEn iTk (ov uP) (ov uU) (.int (nI kAt)) (.int iTo) (.int iFr) (.long JFi) (.int iFa) (.ref qm3) (.int iSt) iLv iWs vLa (.ref qmu) (.ref qmy) (.ref qmb) (.ref qms) (.int iOm) fMr) L_X6_91 hN hP hD hS hA [0, 14] [false, true, true, true, true, true, true, true, true, true, true, true, true, true, false] rfl (by decide +kernel) rfl 0 5 rfl rfl rfl ⟨Nat.le_of_ble_eq_true rfl, Nat.le_of_ble_eq_true rfl⟩ hl.1 (Nat.le_of_ble_eq_true rfl) dX6_copy_184 ⟨Nat.le_of_ble_eq_true rfl, Nat.le_of_ble_eq_true rfl⟩ (fun r_96 u_98 H locs h_97 => ?_)
                              clear hP hD hS
                              intro hP hD hS
                              obtain ⟨fX_99, rfl, h_97⟩ := h_97
                              have hPD := pd_as [zzI cy qmh 8 fMh, zzI cy qmo 8 fMo, zzI cy qmz 8 fMz, zzG cy 4 qmR rR, zzJ cy (rR 0) 40 (eR 0), zzJ cy (rR 1) 40 (eR 1), zzJ cy (rR 2) 40 (eR 2), zzJ cy (rR 3) 40 (eR 3), zzJ cy (rR 4) 40 (eR 4), zzJ cy (rR 5) 40 (eR 5), zzJ cy (rR 6) 40 (eR 6), zzJ cy (rR 7) 40 (eR 7), zzJ cy qmv 40 gMv, zzO qm 5 [.ref qmh, .ref qmo, .ref qmz, .ref qmR, .ref qmv, .ref qmk, .ref qma, .ref qmt, .int (nI kZ), .ref qmr, .int (nI (T_nb tA)), .ref qmB, .int (nI (T_np tA)), .ref qmO, .ref qmK, .int iEn, .int iTk, .int (T_sd tA), ov uP, ov uU, .int (nI kAt), .int iTo, .int iFr, .long JFi, .int iFa, .ref qm3, .int iSt, .int iLv, .int iWs, vLa, .ref qmu, .ref qmy, .ref qmb, .ref qms, .int iOm], zzI cy qmr 8 fX_99] hP hD rfl
                              clear hP hD
                              obtain ⟨hP, hD⟩ := hPD
                              subst h_97
                              exact endW (u := [zzO qm 5 [.ref qmh, .ref qmo, .ref qmz, .ref qmR, .ref qmv, .ref qmk, .ref qma, .ref qmt, .int (nI kZ), .ref qmr, .int (nI (T_nb tA)), .ref qmB, .int (nI (T_np tA)), .ref qmO, .ref qmK, .int iEn, .int iTk, .int (T_sd tA), ov uP, ov uU, .int (nI kAt), .int iTo, .int iFr, .long JFi, .int iFa, .ref qm3, .int iSt, .int iLv, .int iWs, vLa, .ref qmu, .ref qmy, .ref qmb, .ref qms, .int iOm], zzI cy qmh 8 fMh, zzI cy qmo 8 fMo, zzI cy qmz 8 fMz, zzG cy 4 qmR rR, zzJ cy (rR 0) 40 (eR 0), zzJ cy (rR 1) 40 (eR 1), zzJ cy (rR 2) 40 (eR 2), zzJ cy (rR 3) 40 (eR 3), zzJ cy (rR 4) 40 (eR 4), zzJ cy (rR 5) 40 (eR 5), zzJ cy (rR 6) 40 (eR 6), zzJ cy (rR 7) 40 (eR 7), zzJ cy qmv 40 gMv, zzI cy qmr 8 fX_99]) hx hb hr hlocks rfl (hP.sub [13, 0, 1, 2, 3, 4, 5, 6, 7, 8, 9, 10, 11, 12, 14] rfl) (hD.sub [13, 0, 1, 2, 3, 4, 5, 6, 7, 8, 9, 10, 11, 12, 14] (by decide +kernel) rfl) hS ⟨eR, gMv, fX_99, rfl, Or.inl ⟨rfl, Or.inr ⟨k_4, k_11, by omega, by omega, rfl, rfl, c_15, c_20, c_26, c_31, (fun h1 h2 => absurd h1 c_25), (fun q => c_62 (q.2.2.2.2.2.2))⟩, rfl⟩, trivial⟩ dX6_copy_187
              · refine lv_aload_n hx hb dX6_copy_111 rfl (lv_at hl 0 rfl) ?_
                refine lv_bipush (v := (-4)) hx hb dX6_copy_112 (by decide) ?_
                refine cVi (As := [.int (-4)]) (rest := []) (b := qm) (q := (RX6, TX6, 35)) ⟨hx, hb, hml, hown, hts⟩ (c_X6_refuse4 l G cy (s.heap).size qm (.ref qmh) (.ref qmo) (.ref qmz) (.ref qmR) (.ref qmv) (.ref qmk) (.ref qma) (.ref qmt) (.int (nI kZ)) qmr tA qmB qmO qmK iEn iTk (ov uP) (ov uU) (.int (nI kAt)) (.int iTo) (.int iFr) (.long JFi) (.int iFa) (.ref qm3) (.int iSt) iLv iWs vLa (.ref qmu) (.ref qmy) (.ref qmb) (.ref qms) (.int iOm) fMr) L_X6_91 hN hP hD hS hA [0, 14] [false, true, true, true, true, true, true, true, true, true, true, true, true, true, false] rfl (by decide +kernel) rfl 0 5 rfl rfl rfl ⟨Nat.le_of_ble_eq_true rfl, Nat.le_of_ble_eq_true rfl⟩ hl.1 (Nat.le_of_ble_eq_true rfl) dX6_copy_114 ⟨Nat.le_of_ble_eq_true rfl, Nat.le_of_ble_eq_true rfl⟩ (fun r_100 u_102 H locs h_101 => ?_)
                clear hP hD hS
                intro hP hD hS
                obtain ⟨fX_103, rfl, h_101⟩ := h_101
                have hPD := pd_as [zzI cy qmh 8 fMh, zzI cy qmo 8 fMo, zzI cy qmz 8 fMz, zzG cy 4 qmR rR, zzJ cy (rR 0) 40 (eR 0), zzJ cy (rR 1) 40 (eR 1), zzJ cy (rR 2) 40 (eR 2), zzJ cy (rR 3) 40 (eR 3), zzJ cy (rR 4) 40 (eR 4), zzJ cy (rR 5) 40 (eR 5), zzJ cy (rR 6) 40 (eR 6), zzJ cy (rR 7) 40 (eR 7), zzJ cy qmv 40 gMv, zzO qm 5 [.ref qmh, .ref qmo, .ref qmz, .ref qmR, .ref qmv, .ref qmk, .ref qma, .ref qmt, .int (nI kZ), .ref qmr, .int (nI (T_nb tA)), .ref qmB, .int (nI (T_np tA)), .ref qmO, .ref qmK, .int iEn, .int iTk, .int (T_sd tA), ov uP, ov uU, .int (nI kAt), .int iTo, .int iFr, .long JFi, .int iFa, .ref qm3, .int iSt, .int iLv, .int iWs, vLa, .ref qmu, .ref qmy, .ref qmb, .ref qms, .int iOm], zzI cy qmr 8 fX_103] hP hD rfl
                clear hP hD
                obtain ⟨hP, hD⟩ := hPD
                subst h_101
                exact endW (u := [zzO qm 5 [.ref qmh, .ref qmo, .ref qmz, .ref qmR, .ref qmv, .ref qmk, .ref qma, .ref qmt, .int (nI kZ), .ref qmr, .int (nI (T_nb tA)), .ref qmB, .int (nI (T_np tA)), .ref qmO, .ref qmK, .int iEn, .int iTk, .int (T_sd tA), ov uP, ov uU, .int (nI kAt), .int iTo, .int iFr, .long JFi, .int iFa, .ref qm3, .int iSt, .int iLv, .int iWs, vLa, .ref qmu, .ref qmy, .ref qmb, .ref qms, .int iOm], zzI cy qmh 8 fMh, zzI cy qmo 8 fMo, zzI cy qmz 8 fMz, zzG cy 4 qmR rR, zzJ cy (rR 0) 40 (eR 0), zzJ cy (rR 1) 40 (eR 1), zzJ cy (rR 2) 40 (eR 2), zzJ cy (rR 3) 40 (eR 3), zzJ cy (rR 4) 40 (eR 4), zzJ cy (rR 5) 40 (eR 5), zzJ cy (rR 6) 40 (eR 6), zzJ cy (rR 7) 40 (eR 7), zzJ cy qmv 40 gMv, zzI cy qmr 8 fX_103]) hx hb hr hlocks rfl (hP.sub [13, 0, 1, 2, 3, 4, 5, 6, 7, 8, 9, 10, 11, 12, 14] rfl) (hD.sub [13, 0, 1, 2, 3, 4, 5, 6, 7, 8, 9, 10, 11, 12, 14] (by decide +kernel) rfl) hS ⟨eR, gMv, fX_103, rfl, Or.inr (Or.inr (Or.inl ⟨rfl, ⟨k_4, k_11, by omega, by omega, rfl, rfl, c_15, c_20, Or.inr c_31⟩, rfl⟩)), trivial⟩ dX6_copy_117
          · refine lv_aload_n hx hb dX6_copy_61 rfl (lv_at hl 0 rfl) ?_
            refine va_get (D := G) (ci := 5) (v := .ref qmh) (C := RX6) (T := TX6) (N := 35) hx hb hts iX_X6 hown hK hP 0 rfl rfl 0 (by decide) (hts _ m_t850) (fun _ h9 => h9) rfl dX6_copy_62 ?_
            refine lv_iload_n hx hb dX6_copy_65 rfl (lv_at hl 2 rfl) ?_
            refine va_iald hx hb hK hP 1 0 rfl rfl (in_shelf h_10) dX6_copy_66 ?_
            refine lv_seti (v := fMh k_11) (congrArg fMh (cl8 (by omega))) ?_
            refine lv_iconst (v := 1) hx hb dX6_copy_67 (by decide) ?_
            refine lv_icmp_ne (tgt := 93) hx hb dX6_copy_68 (by decide) (fun c_104 => ?_) (fun c_104 => ?_)
            · refine lv_aload_n hx hb dX6_copy_93 rfl (lv_at hl 0 rfl) ?_
              refine va_get (D := G) (ci := 5) (v := .ref qmh) (C := RX6) (T := TX6) (N := 35) hx hb hts iX_X6 hown hK hP 0 rfl rfl 0 (by decide) (hts _ m_t850) (fun _ h9 => h9) rfl dX6_copy_94 ?_
              refine lv_iload_n hx hb dX6_copy_97 rfl (lv_at hl 1 rfl) ?_
              refine va_iald hx hb hK hP 1 0 rfl rfl (in_shelf h_3) dX6_copy_98 ?_
              refine lv_seti (v := fMh k_4) (congrArg fMh (cl8 (by omega))) ?_
              refine lv_if_eq (tgt := 111) hx hb dX6_copy_99 (by decide) (fun c_105 => ?_) (fun c_105 => ?_)
              · refine lv_aload_n hx hb dX6_copy_111 rfl (lv_at hl 0 rfl) ?_
                refine lv_bipush (v := (-4)) hx hb dX6_copy_112 (by decide) ?_
                refine cVi (As := [.int (-4)]) (rest := []) (b := qm) (q := (RX6, TX6, 35)) ⟨hx, hb, hml, hown, hts⟩ (c_X6_refuse4 l G cy (s.heap).size qm (.ref qmh) (.ref qmo) (.ref qmz) (.ref qmR) (.ref qmv) (.ref qmk) (.ref qma) (.ref qmt) (.int (nI kZ)) qmr tA qmB qmO qmK iEn iTk (ov uP) (ov uU) (.int (nI kAt)) (.int iTo) (.int iFr) (.long JFi) (.int iFa) (.ref qm3) (.int iSt) iLv iWs vLa (.ref qmu) (.ref qmy) (.ref qmb) (.ref qms) (.int iOm) fMr) L_X6_91 hN hP hD hS hA [0, 14] [false, true, true, true, true, true, true, true, true, true, true, true, true, true, false] rfl (by decide +kernel) rfl 0 5 rfl rfl rfl ⟨Nat.le_of_ble_eq_true rfl, Nat.le_of_ble_eq_true rfl⟩ hl.1 (Nat.le_of_ble_eq_true rfl) dX6_copy_114 ⟨Nat.le_of_ble_eq_true rfl, Nat.le_of_ble_eq_true rfl⟩ (fun r_106 u_108 H locs h_107 => ?_)
                clear hP hD hS
                intro hP hD hS
                obtain ⟨fX_109, rfl, h_107⟩ := h_107
                have hPD := pd_as [zzI cy qmh 8 fMh, zzI cy qmo 8 fMo, zzI cy qmz 8 fMz, zzG cy 4 qmR rR, zzJ cy (rR 0) 40 (eR 0), zzJ cy (rR 1) 40 (eR 1), zzJ cy (rR 2) 40 (eR 2), zzJ cy (rR 3) 40 (eR 3), zzJ cy (rR 4) 40 (eR 4), zzJ cy (rR 5) 40 (eR 5), zzJ cy (rR 6) 40 (eR 6), zzJ cy (rR 7) 40 (eR 7), zzJ cy qmv 40 gMv, zzO qm 5 [.ref qmh, .ref qmo, .ref qmz, .ref qmR, .ref qmv, .ref qmk, .ref qma, .ref qmt, .int (nI kZ), .ref qmr, .int (nI (T_nb tA)), .ref qmB, .int (nI (T_np tA)), .ref qmO, .ref qmK, .int iEn, .int iTk, .int (T_sd tA), ov uP, ov uU, .int (nI kAt), .int iTo, .int iFr, .long JFi, .int iFa, .ref qm3, .int iSt, .int iLv, .int iWs, vLa, .ref qmu, .ref qmy, .ref qmb, .ref qms, .int iOm], zzI cy qmr 8 fX_109] hP hD rfl
                clear hP hD
                obtain ⟨hP, hD⟩ := hPD
                subst h_107
                exact endW (u := [zzO qm 5 [.ref qmh, .ref qmo, .ref qmz, .ref qmR, .ref qmv, .ref qmk, .ref qma, .ref qmt, .int (nI kZ), .ref qmr, .int (nI (T_nb tA)), .ref qmB, .int (nI (T_np tA)), .ref qmO, .ref qmK, .int iEn, .int iTk, .int (T_sd tA), ov uP, ov uU, .int (nI kAt), .int iTo, .int iFr, .long JFi, .int iFa, .ref qm3, .int iSt, .int iLv, .int iWs, vLa, .ref qmu, .ref qmy, .ref qmb, .ref qms, .int iOm], zzI cy qmh 8 fMh, zzI cy qmo 8 fMo, zzI cy qmz 8 fMz, zzG cy 4 qmR rR, zzJ cy (rR 0) 40 (eR 0), zzJ cy (rR 1) 40 (eR 1), zzJ cy (rR 2) 40 (eR 2), zzJ cy (rR 3) 40 (eR 3), zzJ cy (rR 4) 40 (eR 4), zzJ cy (rR 5) 40 (eR 5), zzJ cy (rR 6) 40 (eR 6), zzJ cy (rR 7) 40 (eR 7), zzJ cy qmv 40 gMv, zzI cy qmr 8 fX_109]) hx hb hr hlocks rfl (hP.sub [13, 0, 1, 2, 3, 4, 5, 6, 7, 8, 9, 10, 11, 12, 14] rfl) (hD.sub [13, 0, 1, 2, 3, 4, 5, 6, 7, 8, 9, 10, 11, 12, 14] (by decide +kernel) rfl) hS ⟨eR, gMv, fX_109, rfl, Or.inr (Or.inr (Or.inl ⟨rfl, ⟨k_4, k_11, by omega, by omega, rfl, rfl, c_15, c_20, Or.inl c_105⟩, rfl⟩)), trivial⟩ dX6_copy_117
              · refine lv_aload_n hx hb dX6_copy_102 rfl (lv_at hl 0 rfl) ?_
                refine va_get (D := G) (ci := 5) (v := .ref qmh) (C := RX6) (T := TX6) (N := 35) hx hb hts iX_X6 hown hK hP 0 rfl rfl 0 (by decide) (hts _ m_t850) (fun _ h9 => h9) rfl dX6_copy_103 ?_
                refine lv_iload_n hx hb dX6_copy_106 rfl (lv_at hl 2 rfl) ?_
                refine va_iald hx hb hK hP 1 0 rfl rfl (in_shelf h_10) dX6_copy_107 ?_
                refine lv_seti (v := fMh k_11) (congrArg fMh (cl8 (by omega))) ?_
                refine lv_if_ne (tgt := 118) hx hb dX6_copy_108 (by decide) (fun c_110 => ?_) (fun c_110 => ?_)
                · refine lv_iload hx hb dX6_copy_118 (lv_at hl 5 rfl) ?_
                  refine lv_if_lt (tgt := 181) hx hb dX6_copy_120 (by decide) (fun c_111 => ?_) (fun c_111 => ?_)
                  · refine lv_aload_n hx hb dX6_copy_181 rfl (lv_at hl 0 rfl) ?_
                    refine lv_bipush (v := (-2)) hx hb dX6_copy_182 (by decide) ?_
                    refine cVi (As := [.int (-2)]) (rest := []) (b := qm) (q := (RX6, TX6, 35)) ⟨hx, hb, hml, hown, hts⟩ (c_X6_refuse2 l G cy (s.heap).size qm (.ref qmh) (.ref qmo) (.ref qmz) (.ref qmR) (.ref qmv) (.ref qmk) (.ref qma) (.ref qmt) (.int (nI kZ)) qmr tA qmB qmO qmK iEn iTk (ov uP) (ov uU) (.int (nI kAt)) (.int iTo) (.int iFr) (.long JFi) (.int iFa) (.ref qm3) (.int iSt) iLv iWs vLa (.ref qmu) (.ref qmy) (.ref qmb) (.ref qms) (.int iOm) fMr) L_X6_91 hN hP hD hS hA [0, 14] [false, true, true, true, true, true, true, true, true, true, true, true, true, true, false] rfl (by decide +kernel) rfl 0 5 rfl rfl rfl ⟨Nat.le_of_ble_eq_true rfl, Nat.le_of_ble_eq_true rfl⟩ hl.1 (Nat.le_of_ble_eq_true rfl) dX6_copy_184 ⟨Nat.le_of_ble_eq_true rfl, Nat.le_of_ble_eq_true rfl⟩ (fun r_112 u_114 H locs h_113 => ?_)
                    clear hP hD hS
                    intro hP hD hS
                    obtain ⟨fX_115, rfl, h_113⟩ := h_113
                    have hPD := pd_as [zzI cy qmh 8 fMh, zzI cy qmo 8 fMo, zzI cy qmz 8 fMz, zzG cy 4 qmR rR, zzJ cy (rR 0) 40 (eR 0), zzJ cy (rR 1) 40 (eR 1), zzJ cy (rR 2) 40 (eR 2), zzJ cy (rR 3) 40 (eR 3), zzJ cy (rR 4) 40 (eR 4), zzJ cy (rR 5) 40 (eR 5), zzJ cy (rR 6) 40 (eR 6), zzJ cy (rR 7) 40 (eR 7), zzJ cy qmv 40 gMv, zzO qm 5 [.ref qmh, .ref qmo, .ref qmz, .ref qmR, .ref qmv, .ref qmk, .ref qma, .ref qmt, .int (nI kZ), .ref qmr, .int (nI (T_nb tA)), .ref qmB, .int (nI (T_np tA)), .ref qmO, .ref qmK, .int iEn, .int iTk, .int (T_sd tA), ov uP, ov uU, .int (nI kAt), .int iTo, .int iFr, .long JFi, .int iFa, .ref qm3, .int iSt, .int iLv, .int iWs, vLa, .ref qmu, .ref qmy, .ref qmb, .ref qms, .int iOm], zzI cy qmr 8 fX_115] hP hD rfl
                    clear hP hD
                    obtain ⟨hP, hD⟩ := hPD
                    subst h_113
                    exact endW (u := [zzO qm 5 [.ref qmh, .ref qmo, .ref qmz, .ref qmR, .ref qmv, .ref qmk, .ref qma, .ref qmt, .int (nI kZ), .ref qmr, .int (nI (T_nb tA)), .ref qmB, .int (nI (T_np tA)), .ref qmO, .ref qmK, .int iEn, .int iTk, .int (T_sd tA), ov uP, ov uU, .int (nI kAt), .int iTo, .int iFr, .long JFi, .int iFa, .ref qm3, .int iSt, .int iLv, .int iWs, vLa, .ref qmu, .ref qmy, .ref qmb, .ref qms, .int iOm], zzI cy qmh 8 fMh, zzI cy qmo 8 fMo, zzI cy qmz 8 fMz, zzG cy 4 qmR rR, zzJ cy (rR 0) 40 (eR 0), zzJ cy (rR 1) 40 (eR 1), zzJ cy (rR 2) 40 (eR 2), zzJ cy (rR 3) 40 (eR 3), zzJ cy (rR 4) 40 (eR 4), zzJ cy (rR 5) 40 (eR 5), zzJ cy (rR 6) 40 (eR 6), zzJ cy (rR 7) 40 (eR 7), zzJ cy qmv 40 gMv, zzI cy qmr 8 fX_115]) hx hb hr hlocks rfl (hP.sub [13, 0, 1, 2, 3, 4, 5, 6, 7, 8, 9, 10, 11, 12, 14] rfl) (hD.sub [13, 0, 1, 2, 3, 4, 5, 6, 7, 8, 9, 10, 11, 12, 14] (by decide +kernel) rfl) hS ⟨eR, gMv, fX_115, rfl, Or.inl ⟨rfl, Or.inr ⟨k_4, k_11, by omega, by omega, rfl, rfl, c_15, c_20, c_105, c_110, (fun h1 h2 => absurd h2 c_104), (fun q => q.1 c_111)⟩, rfl⟩, trivial⟩ dX6_copy_187
                  · refine lv_iload_n hx hb dX6_copy_123 rfl (lv_at hl 3 rfl) ?_
                    refine lv_if_lt (tgt := 181) hx hb dX6_copy_124 (by decide) (fun c_116 => ?_) (fun c_116 => ?_)
                    · refine lv_aload_n hx hb dX6_copy_181 rfl (lv_at hl 0 rfl) ?_
                      refine lv_bipush (v := (-2)) hx hb dX6_copy_182 (by decide) ?_
                      refine cVi (As := [.int (-2)]) (rest := []) (b := qm) (q := (RX6, TX6, 35)) ⟨hx, hb, hml, hown, hts⟩ (c_X6_refuse2 l G cy (s.heap).size qm (.ref qmh) (.ref qmo) (.ref qmz) (.ref qmR) (.ref qmv) (.ref qmk) (.ref qma) (.ref qmt) (.int (nI kZ)) qmr tA qmB qmO qmK iEn iTk (ov uP) (ov uU) (.int (nI kAt)) (.int iTo) (.int iFr) (.long JFi) (.int iFa) (.ref qm3) (.int iSt) iLv iWs vLa (.ref qmu) (.ref qmy) (.ref qmb) (.ref qms) (.int iOm) fMr) L_X6_91 hN hP hD hS hA [0, 14] [false, true, true, true, true, true, true, true, true, true, true, true, true, true, false] rfl (by decide +kernel) rfl 0 5 rfl rfl rfl ⟨Nat.le_of_ble_eq_true rfl, Nat.le_of_ble_eq_true rfl⟩ hl.1 (Nat.le_of_ble_eq_true rfl) dX6_copy_184 ⟨Nat.le_of_ble_eq_true rfl, Nat.le_of_ble_eq_true rfl⟩ (fun r_117 u_119 H locs h_118 => ?_)
                      clear hP hD hS
                      intro hP hD hS
                      obtain ⟨fX_120, rfl, h_118⟩ := h_118
                      have hPD := pd_as [zzI cy qmh 8 fMh, zzI cy qmo 8 fMo, zzI cy qmz 8 fMz, zzG cy 4 qmR rR, zzJ cy (rR 0) 40 (eR 0), zzJ cy (rR 1) 40 (eR 1), zzJ cy (rR 2) 40 (eR 2), zzJ cy (rR 3) 40 (eR 3), zzJ cy (rR 4) 40 (eR 4), zzJ cy (rR 5) 40 (eR 5), zzJ cy (rR 6) 40 (eR 6), zzJ cy (rR 7) 40 (eR 7), zzJ cy qmv 40 gMv, zzO qm 5 [.ref qmh, .ref qmo, .ref qmz, .ref qmR, .ref qmv, .ref qmk, .ref qma, .ref qmt, .int (nI kZ), .ref qmr, .int (nI (T_nb tA)), .ref qmB, .int (nI (T_np tA)), .ref qmO, .ref qmK, .int iEn, .int iTk, .int (T_sd tA), ov uP, ov uU, .int (nI kAt), .int iTo, .int iFr, .long JFi, .int iFa, .ref qm3, .int iSt, .int iLv, .int iWs, vLa, .ref qmu, .ref qmy, .ref qmb, .ref qms, .int iOm], zzI cy qmr 8 fX_120] hP hD rfl
                      clear hP hD
                      obtain ⟨hP, hD⟩ := hPD
                      subst h_118
                      exact endW (u := [zzO qm 5 [.ref qmh, .ref qmo, .ref qmz, .ref qmR, .ref qmv, .ref qmk, .ref qma, .ref qmt, .int (nI kZ), .ref qmr, .int (nI (T_nb tA)), .ref qmB, .int (nI (T_np tA)), .ref qmO, .ref qmK, .int iEn, .int iTk, .int (T_sd tA), ov uP, ov uU, .int (nI kAt), .int iTo, .int iFr, .long JFi, .int iFa, .ref qm3, .int iSt, .int iLv, .int iWs, vLa, .ref qmu, .ref qmy, .ref qmb, .ref qms, .int iOm], zzI cy qmh 8 fMh, zzI cy qmo 8 fMo, zzI cy qmz 8 fMz, zzG cy 4 qmR rR, zzJ cy (rR 0) 40 (eR 0), zzJ cy (rR 1) 40 (eR 1), zzJ cy (rR 2) 40 (eR 2), zzJ cy (rR 3) 40 (eR 3), zzJ cy (rR 4) 40 (eR 4), zzJ cy (rR 5) 40 (eR 5), zzJ cy (rR 6) 40 (eR 6), zzJ cy (rR 7) 40 (eR 7), zzJ cy qmv 40 gMv, zzI cy qmr 8 fX_120]) hx hb hr hlocks rfl (hP.sub [13, 0, 1, 2, 3, 4, 5, 6, 7, 8, 9, 10, 11, 12, 14] rfl) (hD.sub [13, 0, 1, 2, 3, 4, 5, 6, 7, 8, 9, 10, 11, 12, 14] (by decide +kernel) rfl) hS ⟨eR, gMv, fX_120, rfl, Or.inl ⟨rfl, Or.inr ⟨k_4, k_11, by omega, by omega, rfl, rfl, c_15, c_20, c_105, c_110, (fun h1 h2 => absurd h2 c_104), (fun q => q.2.1 c_116)⟩, rfl⟩, trivial⟩ dX6_copy_187
                    · refine lv_iload hx hb dX6_copy_127 (lv_at hl 4 rfl) ?_
                      refine lv_if_lt (tgt := 181) hx hb dX6_copy_129 (by decide) (fun c_121 => ?_) (fun c_121 => ?_)
                      · refine lv_aload_n hx hb dX6_copy_181 rfl (lv_at hl 0 rfl) ?_
                        refine lv_bipush (v := (-2)) hx hb dX6_copy_182 (by decide) ?_
                        refine cVi (As := [.int (-2)]) (rest := []) (b := qm) (q := (RX6, TX6, 35)) ⟨hx, hb, hml, hown, hts⟩ (c_X6_refuse2 l G cy (s.heap).size qm (.ref qmh) (.ref qmo) (.ref qmz) (.ref qmR) (.ref qmv) (.ref qmk) (.ref qma) (.ref qmt) (.int (nI kZ)) qmr tA qmB qmO qmK iEn iTk (ov uP) (ov uU) (.int (nI kAt)) (.int iTo) (.int iFr) (.long JFi) (.int iFa) (.ref qm3) (.int iSt) iLv iWs vLa (.ref qmu) (.ref qmy) (.ref qmb) (.ref qms) (.int iOm) fMr) L_X6_91 hN hP hD hS hA [0, 14] [false, true, true, true, true, true, true, true, true, true, true, true, true, true, false] rfl (by decide +kernel) rfl 0 5 rfl rfl rfl ⟨Nat.le_of_ble_eq_true rfl, Nat.le_of_ble_eq_true rfl⟩ hl.1 (Nat.le_of_ble_eq_true rfl) dX6_copy_184 ⟨Nat.le_of_ble_eq_true rfl, Nat.le_of_ble_eq_true rfl⟩ (fun r_122 u_124 H locs h_123 => ?_)
                        clear hP hD hS
                        intro hP hD hS
                        obtain ⟨fX_125, rfl, h_123⟩ := h_123
                        have hPD := pd_as [zzI cy qmh 8 fMh, zzI cy qmo 8 fMo, zzI cy qmz 8 fMz, zzG cy 4 qmR rR, zzJ cy (rR 0) 40 (eR 0), zzJ cy (rR 1) 40 (eR 1), zzJ cy (rR 2) 40 (eR 2), zzJ cy (rR 3) 40 (eR 3), zzJ cy (rR 4) 40 (eR 4), zzJ cy (rR 5) 40 (eR 5), zzJ cy (rR 6) 40 (eR 6), zzJ cy (rR 7) 40 (eR 7), zzJ cy qmv 40 gMv, zzO qm 5 [.ref qmh, .ref qmo, .ref qmz, .ref qmR, .ref qmv, .ref qmk, .ref qma, .ref qmt, .int (nI kZ), .ref qmr, .int (nI (T_nb tA)), .ref qmB, .int (nI (T_np tA)), .ref qmO, .ref qmK, .int iEn, .int iTk, .int (T_sd tA), ov uP, ov uU, .int (nI kAt), .int iTo, .int iFr, .long JFi, .int iFa, .ref qm3, .int iSt, .int iLv, .int iWs, vLa, .ref qmu, .ref qmy, .ref qmb, .ref qms, .int iOm], zzI cy qmr 8 fX_125] hP hD rfl
                        clear hP hD
                        obtain ⟨hP, hD⟩ := hPD
                        subst h_123
                        exact endW (u := [zzO qm 5 [.ref qmh, .ref qmo, .ref qmz, .ref qmR, .ref qmv, .ref qmk, .ref qma, .ref qmt, .int (nI kZ), .ref qmr, .int (nI (T_nb tA)), .ref qmB, .int (nI (T_np tA)), .ref qmO, .ref qmK, .int iEn, .int iTk, .int (T_sd tA), ov uP, ov uU, .int (nI kAt), .int iTo, .int iFr, .long JFi, .int iFa, .ref qm3, .int iSt, .int iLv, .int iWs, vLa, .ref qmu, .ref qmy, .ref qmb, .ref qms, .int iOm], zzI cy qmh 8 fMh, zzI cy qmo 8 fMo, zzI cy qmz 8 fMz, zzG cy 4 qmR rR, zzJ cy (rR 0) 40 (eR 0), zzJ cy (rR 1) 40 (eR 1), zzJ cy (rR 2) 40 (eR 2), zzJ cy (rR 3) 40 (eR 3), zzJ cy (rR 4) 40 (eR 4), zzJ cy (rR 5) 40 (eR 5), zzJ cy (rR 6) 40 (eR 6), zzJ cy (rR 7) 40 (eR 7), zzJ cy qmv 40 gMv, zzI cy qmr 8 fX_125]) hx hb hr hlocks rfl (hP.sub [13, 0, 1, 2, 3, 4, 5, 6, 7, 8, 9, 10, 11, 12, 14] rfl) (hD.sub [13, 0, 1, 2, 3, 4, 5, 6, 7, 8, 9, 10, 11, 12, 14] (by decide +kernel) rfl) hS ⟨eR, gMv, fX_125, rfl, Or.inl ⟨rfl, Or.inr ⟨k_4, k_11, by omega, by omega, rfl, rfl, c_15, c_20, c_105, c_110, (fun h1 h2 => absurd h2 c_104), (fun q => q.2.2.1 c_121)⟩, rfl⟩, trivial⟩ dX6_copy_187
                      · refine lv_iload hx hb dX6_copy_132 (lv_at hl 5 rfl) ?_
                        refine lv_aload_n hx hb dX6_copy_134 rfl (lv_at hl 0 rfl) ?_
                        refine va_get (D := G) (ci := 5) (v := .ref qmz) (C := RX6) (T := TX6) (N := 35) hx hb hts iX_X6 hown hK hP 0 rfl rfl 2 (by decide) (hts _ m_t852) (fun _ h9 => h9) rfl dX6_copy_135 ?_
                        refine lv_iload_n hx hb dX6_copy_138 rfl (lv_at hl 1 rfl) ?_
                        refine va_iald hx hb hK hP 3 0 rfl rfl (in_shelf h_3) dX6_copy_139 ?_
                        refine lv_seti (v := fMz k_4) (congrArg fMz (cl8 (by omega))) ?_
                        refine lv_icmp_gt (tgt := 181) hx hb dX6_copy_140 (by decide) (fun c_126 => ?_) (fun c_126 => ?_)
                        · refine lv_aload_n hx hb dX6_copy_181 rfl (lv_at hl 0 rfl) ?_
                          refine lv_bipush (v := (-2)) hx hb dX6_copy_182 (by decide) ?_
                          refine cVi (As := [.int (-2)]) (rest := []) (b := qm) (q := (RX6, TX6, 35)) ⟨hx, hb, hml, hown, hts⟩ (c_X6_refuse2 l G cy (s.heap).size qm (.ref qmh) (.ref qmo) (.ref qmz) (.ref qmR) (.ref qmv) (.ref qmk) (.ref qma) (.ref qmt) (.int (nI kZ)) qmr tA qmB qmO qmK iEn iTk (ov uP) (ov uU) (.int (nI kAt)) (.int iTo) (.int iFr) (.long JFi) (.int iFa) (.ref qm3) (.int iSt) iLv iWs vLa (.ref qmu) (.ref qmy) (.ref qmb) (.ref qms) (.int iOm) fMr) L_X6_91 hN hP hD hS hA [0, 14] [false, true, true, true, true, true, true, true, true, true, true, true, true, true, false] rfl (by decide +kernel) rfl 0 5 rfl rfl rfl ⟨Nat.le_of_ble_eq_true rfl, Nat.le_of_ble_eq_true rfl⟩ hl.1 (Nat.le_of_ble_eq_true rfl) dX6_copy_184 ⟨Nat.le_of_ble_eq_true rfl, Nat.le_of_ble_eq_true rfl⟩ (fun r_127 u_129 H locs h_128 => ?_)
                          clear hP hD hS
                          intro hP hD hS
                          obtain ⟨fX_130, rfl, h_128⟩ := h_128
                          have hPD := pd_as [zzI cy qmh 8 fMh, zzI cy qmo 8 fMo, zzI cy qmz 8 fMz, zzG cy 4 qmR rR, zzJ cy (rR 0) 40 (eR 0), zzJ cy (rR 1) 40 (eR 1), zzJ cy (rR 2) 40 (eR 2), zzJ cy (rR 3) 40 (eR 3), zzJ cy (rR 4) 40 (eR 4), zzJ cy (rR 5) 40 (eR 5), zzJ cy (rR 6) 40 (eR 6), zzJ cy (rR 7) 40 (eR 7), zzJ cy qmv 40 gMv, zzO qm 5 [.ref qmh, .ref qmo, .ref qmz, .ref qmR, .ref qmv, .ref qmk, .ref qma, .ref qmt, .int (nI kZ), .ref qmr, .int (nI (T_nb tA)), .ref qmB, .int (nI (T_np tA)), .ref qmO, .ref qmK, .int iEn, .int iTk, .int (T_sd tA), ov uP, ov uU, .int (nI kAt), .int iTo, .int iFr, .long JFi, .int iFa, .ref qm3, .int iSt, .int iLv, .int iWs, vLa, .ref qmu, .ref qmy, .ref qmb, .ref qms, .int iOm], zzI cy qmr 8 fX_130] hP hD rfl
                          clear hP hD
                          obtain ⟨hP, hD⟩ := hPD
                          subst h_128
                          exact endW (u := [zzO qm 5 [.ref qmh, .ref qmo, .ref qmz, .ref qmR, .ref qmv, .ref qmk, .ref qma, .ref qmt, .int (nI kZ), .ref qmr, .int (nI (T_nb tA)), .ref qmB, .int (nI (T_np tA)), .ref qmO, .ref qmK, .int iEn, .int iTk, .int (T_sd tA), ov uP, ov uU, .int (nI kAt), .int iTo, .int iFr, .long JFi, .int iFa, .ref qm3, .int iSt, .int iLv, .int iWs, vLa, .ref qmu, .ref qmy, .ref qmb, .ref qms, .int iOm], zzI cy qmh 8 fMh, zzI cy qmo 8 fMo, zzI cy qmz 8 fMz, zzG cy 4 qmR rR, zzJ cy (rR 0) 40 (eR 0), zzJ cy (rR 1) 40 (eR 1), zzJ cy (rR 2) 40 (eR 2), zzJ cy (rR 3) 40 (eR 3), zzJ cy (rR 4) 40 (eR 4), zzJ cy (rR 5) 40 (eR 5), zzJ cy (rR 6) 40 (eR 6), zzJ cy (rR 7) 40 (eR 7), zzJ cy qmv 40 gMv, zzI cy qmr 8 fX_130]) hx hb hr hlocks rfl (hP.sub [13, 0, 1, 2, 3, 4, 5, 6, 7, 8, 9, 10, 11, 12, 14] rfl) (hD.sub [13, 0, 1, 2, 3, 4, 5, 6, 7, 8, 9, 10, 11, 12, 14] (by decide +kernel) rfl) hS ⟨eR, gMv, fX_130, rfl, Or.inl ⟨rfl, Or.inr ⟨k_4, k_11, by omega, by omega, rfl, rfl, c_15, c_20, c_105, c_110, (fun h1 h2 => absurd h2 c_104), (fun q => q.2.2.2.1 c_126)⟩, rfl⟩, trivial⟩ dX6_copy_187
                        · refine lv_iload hx hb dX6_copy_143 (lv_at hl 5 rfl) ?_
                          refine lv_aload_n hx hb dX6_copy_145 rfl (lv_at hl 0 rfl) ?_
                          refine va_get (D := G) (ci := 5) (v := .ref qmz) (C := RX6) (T := TX6) (N := 35) hx hb hts iX_X6 hown hK hP 0 rfl rfl 2 (by decide) (hts _ m_t852) (fun _ h9 => h9) rfl dX6_copy_146 ?_
                          refine lv_iload_n hx hb dX6_copy_149 rfl (lv_at hl 2 rfl) ?_
                          refine va_iald hx hb hK hP 3 0 rfl rfl (in_shelf h_10) dX6_copy_150 ?_
                          refine lv_seti (v := fMz k_11) (congrArg fMz (cl8 (by omega))) ?_
                          refine lv_icmp_gt (tgt := 181) hx hb dX6_copy_151 (by decide) (fun c_131 => ?_) (fun c_131 => ?_)
                          · refine lv_aload_n hx hb dX6_copy_181 rfl (lv_at hl 0 rfl) ?_
                            refine lv_bipush (v := (-2)) hx hb dX6_copy_182 (by decide) ?_
                            refine cVi (As := [.int (-2)]) (rest := []) (b := qm) (q := (RX6, TX6, 35)) ⟨hx, hb, hml, hown, hts⟩ (c_X6_refuse2 l G cy (s.heap).size qm (.ref qmh) (.ref qmo) (.ref qmz) (.ref qmR) (.ref qmv) (.ref qmk) (.ref qma) (.ref qmt) (.int (nI kZ)) qmr tA qmB qmO qmK iEn iTk (ov uP) (ov uU) (.int (nI kAt)) (.int iTo) (.int iFr) (.long JFi) (.int iFa) (.ref qm3) (.int iSt) iLv iWs vLa (.ref qmu) (.ref qmy) (.ref qmb) (.ref qms) (.int iOm) fMr) L_X6_91 hN hP hD hS hA [0, 14] [false, true, true, true, true, true, true, true, true, true, true, true, true, true, false] rfl (by decide +kernel) rfl 0 5 rfl rfl rfl ⟨Nat.le_of_ble_eq_true rfl, Nat.le_of_ble_eq_true rfl⟩ hl.1 (Nat.le_of_ble_eq_true rfl) dX6_copy_184 ⟨Nat.le_of_ble_eq_true rfl, Nat.le_of_ble_eq_true rfl⟩ (fun r_132 u_134 H locs h_133 => ?_)
                            clear hP hD hS
                            intro hP hD hS
                            obtain ⟨fX_135, rfl, h_133⟩ := h_133
                            have hPD := pd_as [zzI cy qmh 8 fMh, zzI cy qmo 8 fMo, zzI cy qmz 8 fMz, zzG cy 4 qmR rR, zzJ cy (rR 0) 40 (eR 0), zzJ cy (rR 1) 40 (eR 1), zzJ cy (rR 2) 40 (eR 2), zzJ cy (rR 3) 40 (eR 3), zzJ cy (rR 4) 40 (eR 4), zzJ cy (rR 5) 40 (eR 5), zzJ cy (rR 6) 40 (eR 6), zzJ cy (rR 7) 40 (eR 7), zzJ cy qmv 40 gMv, zzO qm 5 [.ref qmh, .ref qmo, .ref qmz, .ref qmR, .ref qmv, .ref qmk, .ref qma, .ref qmt, .int (nI kZ), .ref qmr, .int (nI (T_nb tA)), .ref qmB, .int (nI (T_np tA)), .ref qmO, .ref qmK, .int iEn, .int iTk, .int (T_sd tA), ov uP, ov uU, .int (nI kAt), .int iTo, .int iFr, .long JFi, .int iFa, .ref qm3, .int iSt, .int iLv, .int iWs, vLa, .ref qmu, .ref qmy, .ref qmb, .ref qms, .int iOm], zzI cy qmr 8 fX_135] hP hD rfl
                            clear hP hD
                            obtain ⟨hP, hD⟩ := hPD
                            subst h_133
                            exact endW (u := [zzO qm 5 [.ref qmh, .ref qmo, .ref qmz, .ref qmR, .ref qmv, .ref qmk, .ref qma, .ref qmt, .int (nI kZ), .ref qmr, .int (nI (T_nb tA)), .ref qmB, .int (nI (T_np tA)), .ref qmO, .ref qmK, .int iEn, .int iTk, .int (T_sd tA), ov uP, ov uU, .int (nI kAt), .int iTo, .int iFr, .long JFi, .int iFa, .ref qm3, .int iSt, .int iLv, .int iWs, vLa, .ref qmu, .ref qmy, .ref qmb, .ref qms, .int iOm], zzI cy qmh 8 fMh, zzI cy qmo 8 fMo, zzI cy qmz 8 fMz, zzG cy 4 qmR rR, zzJ cy (rR 0) 40 (eR 0), zzJ cy (rR 1) 40 (eR 1), zzJ cy (rR 2) 40 (eR 2), zzJ cy (rR 3) 40 (eR 3), zzJ cy (rR 4) 40 (eR 4), zzJ cy (rR 5) 40 (eR 5), zzJ cy (rR 6) 40 (eR 6), zzJ cy (rR 7) 40 (eR 7), zzJ cy qmv 40 gMv, zzI cy qmr 8 fX_135]) hx hb hr hlocks rfl (hP.sub [13, 0, 1, 2, 3, 4, 5, 6, 7, 8, 9, 10, 11, 12, 14] rfl) (hD.sub [13, 0, 1, 2, 3, 4, 5, 6, 7, 8, 9, 10, 11, 12, 14] (by decide +kernel) rfl) hS ⟨eR, gMv, fX_135, rfl, Or.inl ⟨rfl, Or.inr ⟨k_4, k_11, by omega, by omega, rfl, rfl, c_15, c_20, c_105, c_110, (fun h1 h2 => absurd h2 c_104), (fun q => q.2.2.2.2.1 c_131)⟩, rfl⟩, trivial⟩ dX6_copy_187
                          · refine lv_iload_n hx hb dX6_copy_154 rfl (lv_at hl 3 rfl) ?_
                            refine lv_aload_n hx hb dX6_copy_155 rfl (lv_at hl 0 rfl) ?_
                            refine va_get (D := G) (ci := 5) (v := .ref qmz) (C := RX6) (T := TX6) (N := 35) hx hb hts iX_X6 hown hK hP 0 rfl rfl 2 (by decide) (hts _ m_t852) (fun _ h9 => h9) rfl dX6_copy_156 ?_
                            refine lv_iload_n hx hb dX6_copy_159 rfl (lv_at hl 1 rfl) ?_
                            refine va_iald hx hb hK hP 3 0 rfl rfl (in_shelf h_3) dX6_copy_160 ?_
                            refine lv_seti (v := fMz k_4) (congrArg fMz (cl8 (by omega))) ?_
                            refine lv_iload hx hb dX6_copy_161 (lv_at hl 5 rfl) ?_
                            refine lv_isub hx hb dX6_copy_163 ?_
                            refine lv_icmp_gt (tgt := 181) hx hb dX6_copy_164 (by decide) (fun c_136 => ?_) (fun c_136 => ?_)
                            · refine lv_aload_n hx hb dX6_copy_181 rfl (lv_at hl 0 rfl) ?_
                              refine lv_bipush (v := (-2)) hx hb dX6_copy_182 (by decide) ?_
                              refine cVi (As := [.int (-2)]) (rest := []) (b := qm) (q := (RX6, TX6, 35)) ⟨hx, hb, hml, hown, hts⟩ (c_X6_refuse2 l G cy (s.heap).size qm (.ref qmh) (.ref qmo) (.ref qmz) (.ref qmR) (.ref qmv) (.ref qmk) (.ref qma) (.ref qmt) (.int (nI kZ)) qmr tA qmB qmO qmK iEn iTk (ov uP) (ov uU) (.int (nI kAt)) (.int iTo) (.int iFr) (.long JFi) (.int iFa) (.ref qm3) (.int iSt) iLv iWs vLa (.ref qmu) (.ref qmy) (.ref qmb) (.ref qms) (.int iOm) fMr) L_X6_91 hN hP hD hS hA [0, 14] [false, true, true, true, true, true, true, true, true, true, true, true, true, true, false] rfl (by decide +kernel) rfl 0 5 rfl rfl rfl ⟨Nat.le_of_ble_eq_true rfl, Nat.le_of_ble_eq_true rfl⟩ hl.1 (Nat.le_of_ble_eq_true rfl) dX6_copy_184 ⟨Nat.le_of_ble_eq_true rfl, Nat.le_of_ble_eq_true rfl⟩ (fun r_137 u_139 H locs h_138 => ?_)
                              clear hP hD hS
                              intro hP hD hS
                              obtain ⟨fX_140, rfl, h_138⟩ := h_138
                              have hPD := pd_as [zzI cy qmh 8 fMh, zzI cy qmo 8 fMo, zzI cy qmz 8 fMz, zzG cy 4 qmR rR, zzJ cy (rR 0) 40 (eR 0), zzJ cy (rR 1) 40 (eR 1), zzJ cy (rR 2) 40 (eR 2), zzJ cy (rR 3) 40 (eR 3), zzJ cy (rR 4) 40 (eR 4), zzJ cy (rR 5) 40 (eR 5), zzJ cy (rR 6) 40 (eR 6), zzJ cy (rR 7) 40 (eR 7), zzJ cy qmv 40 gMv, zzO qm 5 [.ref qmh, .ref qmo, .ref qmz, .ref qmR, .ref qmv, .ref qmk, .ref qma, .ref qmt, .int (nI kZ), .ref qmr, .int (nI (T_nb tA)), .ref qmB, .int (nI (T_np tA)), .ref qmO, .ref qmK, .int iEn, .int iTk, .int (T_sd tA), ov uP, ov uU, .int (nI kAt), .int iTo, .int iFr, .long JFi, .int iFa, .ref qm3, .int iSt, .int iLv, .int iWs, vLa, .ref qmu, .ref qmy, .ref qmb, .ref qms, .int iOm], zzI cy qmr 8 fX_140] hP hD rfl
                              clear hP hD
                              obtain ⟨hP, hD⟩ := hPD
                              subst h_138
                              exact endW (u := [zzO qm 5 [.ref qmh, .ref qmo, .ref qmz, .ref qmR, .ref qmv, .ref qmk, .ref qma, .ref qmt, .int (nI kZ), .ref qmr, .int (nI (T_nb tA)), .ref qmB, .int (nI (T_np tA)), .ref qmO, .ref qmK, .int iEn, .int iTk, .int (T_sd tA), ov uP, ov uU, .int (nI kAt), .int iTo, .int iFr, .long JFi, .int iFa, .ref qm3, .int iSt, .int iLv, .int iWs, vLa, .ref qmu, .ref qmy, .ref qmb, .ref qms, .int iOm], zzI cy qmh 8 fMh, zzI cy qmo 8 fMo, zzI cy qmz 8 fMz, zzG cy 4 qmR rR, zzJ cy (rR 0) 40 (eR 0), zzJ cy (rR 1) 40 (eR 1), zzJ cy (rR 2) 40 (eR 2), zzJ cy (rR 3) 40 (eR 3), zzJ cy (rR 4) 40 (eR 4), zzJ cy (rR 5) 40 (eR 5), zzJ cy (rR 6) 40 (eR 6), zzJ cy (rR 7) 40 (eR 7), zzJ cy qmv 40 gMv, zzI cy qmr 8 fX_140]) hx hb hr hlocks rfl (hP.sub [13, 0, 1, 2, 3, 4, 5, 6, 7, 8, 9, 10, 11, 12, 14] rfl) (hD.sub [13, 0, 1, 2, 3, 4, 5, 6, 7, 8, 9, 10, 11, 12, 14] (by decide +kernel) rfl) hS ⟨eR, gMv, fX_140, rfl, Or.inl ⟨rfl, Or.inr ⟨k_4, k_11, by omega, by omega, rfl, rfl, c_15, c_20, c_105, c_110, (fun h1 h2 => absurd h2 c_104), (fun q => q.2.2.2.2.2.1 c_136)⟩, rfl⟩, trivial⟩ dX6_copy_187
                            · refine lv_iload hx hb dX6_copy_167 (lv_at hl 4 rfl) ?_
                              refine lv_aload_n hx hb dX6_copy_169 rfl (lv_at hl 0 rfl) ?_
                              refine va_get (D := G) (ci := 5) (v := .ref qmz) (C := RX6) (T := TX6) (N := 35) hx hb hts iX_X6 hown hK hP 0 rfl rfl 2 (by decide) (hts _ m_t852) (fun _ h9 => h9) rfl dX6_copy_170 ?_
                              refine lv_iload_n hx hb dX6_copy_173 rfl (lv_at hl 2 rfl) ?_
                              refine va_iald hx hb hK hP 3 0 rfl rfl (in_shelf h_10) dX6_copy_174 ?_
                              refine lv_seti (v := fMz k_11) (congrArg fMz (cl8 (by omega))) ?_
                              refine lv_iload hx hb dX6_copy_175 (lv_at hl 5 rfl) ?_
                              refine lv_isub hx hb dX6_copy_177 ?_
                              refine lv_icmp_le (tgt := 188) hx hb dX6_copy_178 (by decide) (fun c_141 => ?_) (fun c_141 => ?_)
                              · obtain ⟨n_142, hn_143, en_144⟩ := hSz k_4 (by omega)
                                obtain ⟨n_145, hn_146, en_147⟩ := hSz k_11 (by omega)
                                obtain ⟨k_148, k_149, k_150, hk_151, hk_152, rfl, rfl, rfl⟩ := cp_of en_144 hn_143 en_147 hn_146 c_111 c_116 c_121 c_126 c_131 c_136 c_141
                                refine lv_iconst (v := 0) hx hb dX6_copy_188 (by decide) ?_
                                refine lv_istore (lv' := [(6, .int 0), (0, .ref qm), (1, .int (nI k_4)), (2, .int (nI k_11)), (3, .int (nI k_148)), (4, .int (nI k_150)), (5, .int (nI k_149))]) hx hb dX6_copy_189 hl (by decide) rfl (fun ls => ?_)
                                clear hl
                                intro hl
                                have lp_153 : ∀ (n_154 : Nat) (m_156 : Nat) (gJ_157 : Nat → Int64), 40 - m_156 < n_154 → m_156 ≤ k_149 → (∀ x, x < m_156 → gJ_157 x = eR k_4 (k_148 + x)) → ∀ (H : Heap) (locs : List Loc) (ls : Array Slot), va_P G CL [zzO qm 5 [.ref qmh, .ref qmo, .ref qmz, .ref qmR, .ref qmv, .ref qmk, .ref qma, .ref qmt, .int (nI kZ), .ref qmr, .int (nI (T_nb tA)), .ref qmB, .int (nI (T_np tA)), .ref qmO, .ref qmK, .int iEn, .int iTk, .int (T_sd tA), ov uP, ov uU, .int (nI kAt), .int iTo, .int iFr, .long JFi, .int iFa, .ref qm3, .int iSt, .int iLv, .int iWs, vLa, .ref qmu, .ref qmy, .ref qmb, .ref qms, .int iOm], zzI cy qmh 8 fMh, zzI cy qmo 8 fMo, zzI cy qmz 8 fMz, zzG cy 4 qmR rR, zzJ cy (rR 0) 40 (eR 0), zzJ cy (rR 1) 40 (eR 1), zzJ cy (rR 2) 40 (eR 2), zzJ cy (rR 3) 40 (eR 3), zzJ cy (rR 4) 40 (eR 4), zzJ cy (rR 5) 40 (eR 5), zzJ cy (rR 6) 40 (eR 6), zzJ cy (rR 7) 40 (eR 7), zzJ cy qmv 40 gJ_157, zzI cy qmr 8 fMr] H → va_D A [zzO qm 5 [.ref qmh, .ref qmo, .ref qmz, .ref qmR, .ref qmv, .ref qmk, .ref qma, .ref qmt, .int (nI kZ), .ref qmr, .int (nI (T_nb tA)), .ref qmB, .int (nI (T_np tA)), .ref qmO, .ref qmK, .int iEn, .int iTk, .int (T_sd tA), ov uP, ov uU, .int (nI kAt), .int iTo, .int iFr, .long JFi, .int iFa, .ref qm3, .int iSt, .int iLv, .int iWs, vLa, .ref qmu, .ref qmy, .ref qmb, .ref qms, .int iOm], zzI cy qmh 8 fMh, zzI cy qmo 8 fMo, zzI cy qmz 8 fMz, zzG cy 4 qmR rR, zzJ cy (rR 0) 40 (eR 0), zzJ cy (rR 1) 40 (eR 1), zzJ cy (rR 2) 40 (eR 2), zzJ cy (rR 3) 40 (eR 3), zzJ cy (rR 4) 40 (eR 4), zzJ cy (rR 5) 40 (eR 5), zzJ cy (rR 6) 40 (eR 6), zzJ cy (rR 7) 40 (eR 7), zzJ cy qmv 40 gJ_157, zzI cy qmr 8 fMr] → va_S A s.heap H locs → lv_has ls 7 [(6, .int (nI m_156)), (0, .ref qm), (1, .int (nI k_4)), (2, .int (nI k_11)), (3, .int (nI k_148)), (4, .int (nI k_150)), (5, .int (nI k_149))] → W p l e (Rm 16 0 0) s m (List.toArray (α := Value) [.ref qm, .int (nI k_4), .int (nI k_11), .int (nI k_148), .int (nI k_150), .int (nI k_149)]) below meth c H locs 0 0 (MQ below ((Wi G (fun r u => ∃ (eN : Nat → Nat → Int64) (gNv : Nat → Int64) (fNr : Nat → Int32), u = [zzO qm 5 [.ref qmh, .ref qmo, .ref qmz, .ref qmR, .ref qmv, .ref qmk, .ref qma, .ref qmt, .int (nI kZ), .ref qmr, .int (nI (T_nb tA)), .ref qmB, .int (nI (T_np tA)), .ref qmO, .ref qmK, .int iEn, .int iTk, .int (T_sd tA), ov uP, ov uU, .int (nI kAt), .int iTo, .int iFr, .long JFi, .int iFa, .ref qm3, .int iSt, .int iLv, .int iWs, vLa, .ref qmu, .ref qmy, .ref qmb, .ref qms, .int iOm], zzI cy qmh 8 fMh, zzI cy qmo 8 fMo, zzI cy qmz 8 fMz, zzG cy 4 qmR rR, zzJ cy (rR 0) 40 (eN 0), zzJ cy (rR 1) 40 (eN 1), zzJ cy (rR 2) 40 (eN 2), zzJ cy (rR 3) 40 (eN 3), zzJ cy (rR 4) 40 (eN 4), zzJ cy (rR 5) 40 (eN 5), zzJ cy (rR 6) 40 (eN 6), zzJ cy (rR 7) 40 (eN 7), zzJ cy qmv 40 gNv, zzI cy qmr 8 fNr] ∧ (PMcopy fMh fMo fMz eR (nI k_4) (nI k_11) (nI k_148) (nI k_150) (nI k_149) r eN) ∧ (True))) A) (List.toArray (α := Value) [.ref qm, .int (nI k_4), .int (nI k_11), .int (nI k_148), .int (nI k_150), .int (nI k_149)]) s 0 0 A) (F0 m 191 ls []) := by
                                  intro n_154
                                  induction n_154 with
                                  | zero => intro m_156 gJ_157 hm9; exact absurd hm9 (Nat.not_lt_zero _)
                                  | succ n_154 ih_155 =>
                                    intro m_156 gJ_157 hm_160 hm_160 hg_159 H locs ls hP hD hS hl
                                    refine lv_iload hx hb dX6_copy_191 (lv_at hl 0 rfl) ?_
                                    refine lv_iload hx hb dX6_copy_193 (lv_at hl 6 rfl) ?_
                                    refine lv_icmp_ge (tgt := 222) hx hb dX6_copy_195 (by decide) (fun c_161 => ?_) (fun c_161 => ?_)
                                    · have hlt_162 : m_156 = k_149 := Nat.le_antisymm (by omega) (lp_ge rfl rfl (by omega) (by omega) c_161)
                                      refine lv_iconst (v := 0) hx hb dX6_copy_222 (by decide) ?_
                                      refine lv_istore (lv' := [(6, .int 0), (0, .ref qm), (1, .int (nI k_4)), (2, .int (nI k_11)), (3, .int (nI k_148)), (4, .int (nI k_150)), (5, .int (nI k_149))]) hx hb dX6_copy_223 hl (by decide) rfl (fun ls => ?_)
                                      clear hl
                                      intro hl
                                      have lp_163 : ∀ (n_164 : Nat) (n_166 : Nat) (eJ_167 : Nat → Nat → Int64), 40 - n_166 < n_164 → n_166 ≤ k_149 → (∀ s x, eJ_167 s x = if s = k_11 ∧ k_150 ≤ x ∧ x < k_150 + n_166 then eR k_4 (k_148 + (x - k_150)) else eR s x) → ∀ (H : Heap) (locs : List Loc) (ls : Array Slot), va_P G CL [zzO qm 5 [.ref qmh, .ref qmo, .ref qmz, .ref qmR, .ref qmv, .ref qmk, .ref qma, .ref qmt, .int (nI kZ), .ref qmr, .int (nI (T_nb tA)), .ref qmB, .int (nI (T_np tA)), .ref qmO, .ref qmK, .int iEn, .int iTk, .int (T_sd tA), ov uP, ov uU, .int (nI kAt), .int iTo, .int iFr, .long JFi, .int iFa, .ref qm3, .int iSt, .int iLv, .int iWs, vLa, .ref qmu, .ref qmy, .ref qmb, .ref qms, .int iOm], zzI cy qmh 8 fMh, zzI cy qmo 8 fMo, zzI cy qmz 8 fMz, zzG cy 4 qmR rR, zzJ cy (rR 0) 40 (eJ_167 0), zzJ cy (rR 1) 40 (eJ_167 1), zzJ cy (rR 2) 40 (eJ_167 2), zzJ cy (rR 3) 40 (eJ_167 3), zzJ cy (rR 4) 40 (eJ_167 4), zzJ cy (rR 5) 40 (eJ_167 5), zzJ cy (rR 6) 40 (eJ_167 6), zzJ cy (rR 7) 40 (eJ_167 7), zzJ cy qmv 40 gJ_157, zzI cy qmr 8 fMr] H → va_D A [zzO qm 5 [.ref qmh, .ref qmo, .ref qmz, .ref qmR, .ref qmv, .ref qmk, .ref qma, .ref qmt, .int (nI kZ), .ref qmr, .int (nI (T_nb tA)), .ref qmB, .int (nI (T_np tA)), .ref qmO, .ref qmK, .int iEn, .int iTk, .int (T_sd tA), ov uP, ov uU, .int (nI kAt), .int iTo, .int iFr, .long JFi, .int iFa, .ref qm3, .int iSt, .int iLv, .int iWs, vLa, .ref qmu, .ref qmy, .ref qmb, .ref qms, .int iOm], zzI cy qmh 8 fMh, zzI cy qmo 8 fMo, zzI cy qmz 8 fMz, zzG cy 4 qmR rR, zzJ cy (rR 0) 40 (eJ_167 0), zzJ cy (rR 1) 40 (eJ_167 1), zzJ cy (rR 2) 40 (eJ_167 2), zzJ cy (rR 3) 40 (eJ_167 3), zzJ cy (rR 4) 40 (eJ_167 4), zzJ cy (rR 5) 40 (eJ_167 5), zzJ cy (rR 6) 40 (eJ_167 6), zzJ cy (rR 7) 40 (eJ_167 7), zzJ cy qmv 40 gJ_157, zzI cy qmr 8 fMr] → va_S A s.heap H locs → lv_has ls 7 [(6, .int (nI n_166)), (0, .ref qm), (1, .int (nI k_4)), (2, .int (nI k_11)), (3, .int (nI k_148)), (4, .int (nI k_150)), (5, .int (nI k_149))] → W p l e (Rm 16 0 0) s m (List.toArray (α := Value) [.ref qm, .int (nI k_4), .int (nI k_11), .int (nI k_148), .int (nI k_150), .int (nI k_149)]) below meth c H locs 0 0 (MQ below ((Wi G (fun r u => ∃ (eN : Nat → Nat → Int64) (gNv : Nat → Int64) (fNr : Nat → Int32), u = [zzO qm 5 [.ref qmh, .ref qmo, .ref qmz, .ref qmR, .ref qmv, .ref qmk, .ref qma, .ref qmt, .int (nI kZ), .ref qmr, .int (nI (T_nb tA)), .ref qmB, .int (nI (T_np tA)), .ref qmO, .ref qmK, .int iEn, .int iTk, .int (T_sd tA), ov uP, ov uU, .int (nI kAt), .int iTo, .int iFr, .long JFi, .int iFa, .ref qm3, .int iSt, .int iLv, .int iWs, vLa, .ref qmu, .ref qmy, .ref qmb, .ref qms, .int iOm], zzI cy qmh 8 fMh, zzI cy qmo 8 fMo, zzI cy qmz 8 fMz, zzG cy 4 qmR rR, zzJ cy (rR 0) 40 (eN 0), zzJ cy (rR 1) 40 (eN 1), zzJ cy (rR 2) 40 (eN 2), zzJ cy (rR 3) 40 (eN 3), zzJ cy (rR 4) 40 (eN 4), zzJ cy (rR 5) 40 (eN 5), zzJ cy (rR 6) 40 (eN 6), zzJ cy (rR 7) 40 (eN 7), zzJ cy qmv 40 gNv, zzI cy qmr 8 fNr] ∧ (PMcopy fMh fMo fMz eR (nI k_4) (nI k_11) (nI k_148) (nI k_150) (nI k_149) r eN) ∧ (True))) A) (List.toArray (α := Value) [.ref qm, .int (nI k_4), .int (nI k_11), .int (nI k_148), .int (nI k_150), .int (nI k_149)]) s 0 0 A) (F0 m 225 ls []) := by
                                        intro n_164
                                        induction n_164 with
                                        | zero => intro n_166 eJ_167 hm9; exact absurd hm9 (Nat.not_lt_zero _)
                                        | succ n_164 ih_165 =>
                                          intro n_166 eJ_167 hm_170 hn_168 he_169 H locs ls hP hD hS hl
                                          refine lv_iload hx hb dX6_copy_225 (lv_at hl 0 rfl) ?_
                                          refine lv_iload hx hb dX6_copy_227 (lv_at hl 6 rfl) ?_
                                          refine lv_icmp_ge (tgt := 257) hx hb dX6_copy_229 (by decide) (fun c_171 => ?_) (fun c_171 => ?_)
                                          · have hlt_172 : n_166 = k_149 := Nat.le_antisymm (by omega) (lp_ge rfl rfl (by omega) (by omega) c_171)
                                            refine lv_iload hx hb dX6_copy_257 (lv_at hl 6 rfl) ?_
                                            exact endW (u := [zzO qm 5 [.ref qmh, .ref qmo, .ref qmz, .ref qmR, .ref qmv, .ref qmk, .ref qma, .ref qmt, .int (nI kZ), .ref qmr, .int (nI (T_nb tA)), .ref qmB, .int (nI (T_np tA)), .ref qmO, .ref qmK, .int iEn, .int iTk, .int (T_sd tA), ov uP, ov uU, .int (nI kAt), .int iTo, .int iFr, .long JFi, .int iFa, .ref qm3, .int iSt, .int iLv, .int iWs, vLa, .ref qmu, .ref qmy, .ref qmb, .ref qms, .int iOm], zzI cy qmh 8 fMh, zzI cy qmo 8 fMo, zzI cy qmz 8 fMz, zzG cy 4 qmR rR, zzJ cy (rR 0) 40 (eJ_167 0), zzJ cy (rR 1) 40 (eJ_167 1), zzJ cy (rR 2) 40 (eJ_167 2), zzJ cy (rR 3) 40 (eJ_167 3), zzJ cy (rR 4) 40 (eJ_167 4), zzJ cy (rR 5) 40 (eJ_167 5), zzJ cy (rR 6) 40 (eJ_167 6), zzJ cy (rR 7) 40 (eJ_167 7), zzJ cy qmv 40 gJ_157, zzI cy qmr 8 fMr]) hx hb hr hlocks rfl (hP.sub [0, 1, 2, 3, 4, 5, 6, 7, 8, 9, 10, 11, 12, 13, 14] rfl) (hD.sub [0, 1, 2, 3, 4, 5, 6, 7, 8, 9, 10, 11, 12, 13, 14] (by decide +kernel) rfl) hS ⟨eJ_167, gJ_157, fMr, rfl, Or.inr (Or.inr (Or.inr ⟨rfl, k_4, k_11, k_148, k_150, k_149, by omega, by omega, rfl, rfl, c_15, c_20, c_105, c_110, (fun h1 h2 => absurd h2 c_104), rfl, rfl, rfl, by omega, by omega, ⟨c_111, c_116, c_121, c_126, c_131, c_136, c_141⟩, by have := he_169; rw [hlt_172] at this; exact this⟩)), trivial⟩ dX6_copy_259
                                          · have hlt_173 : n_166 < k_149 := lp_lt rfl rfl (by omega) (by omega) c_171
                                            refine lv_aload_n hx hb dX6_copy_232 rfl (lv_at hl 1 rfl) ?_
                                            refine va_get (D := G) (ci := 5) (v := .ref qmR) (C := RX6) (T := TX6) (N := 35) hx hb hts iX_X6 hown hK hP 0 rfl rfl 3 (by decide) (hts _ m_t853) (fun _ h9 => h9) rfl dX6_copy_233 ?_
                                            refine lv_iload_n hx hb dX6_copy_236 rfl (lv_at hl 3 rfl) ?_
                                            refine va_alda hx hb hK hP 4 4 rfl rfl (in_shelf h_10) dX6_copy_237 ?_
                                            refine lv_setv (v := .ref (rR k_11)) (g_ref (by omega)) ?_
                                            refine lv_iload hx hb dX6_copy_238 (lv_at hl 5 rfl) ?_
                                            refine lv_iload hx hb dX6_copy_240 (lv_at hl 0 rfl) ?_
                                            refine lv_iadd hx hb dX6_copy_242 ?_
                                            refine lv_seti (v := nI (k_150 + n_166)) (nI_add _ _) ?_
                                            refine lv_aload_n hx hb dX6_copy_243 rfl (lv_at hl 1 rfl) ?_
                                            refine va_get (D := G) (ci := 5) (v := .ref qmv) (C := RX6) (T := TX6) (N := 35) hx hb hts iX_X6 hown hK hP 0 rfl rfl 4 (by decide) (hts _ m_t854) (fun _ h9 => h9) rfl dX6_copy_244 ?_
                                            refine lv_iload hx hb dX6_copy_247 (lv_at hl 0 rfl) ?_
                                            refine va_lald hx hb hK hP 13 1 rfl rfl (vp_in_nI (by omega) (by omega)) dX6_copy_249 ?_
                                            refine lv_setl (v := gJ_157 n_166) (congrArg gJ_157 (nI_clamp (by omega))) ?_
                                            refine va_last hx hb hK hP hD hS (5 + k_11) 1 ((sg8 (n0 := 5) (f := (fun j => zzJ cy (rR j) 40 (eJ_167 j))) rfl rfl rfl rfl rfl rfl rfl rfl) k_11 (by omega)) rfl (vp_in_nI (by omega) (by omega)) dX6_copy_250 (fun H locs => ?_)
                                            clear hP hD hS
                                            intro hP hD hS
                                            rw [nI_clamp (n := (k_150 + n_166)) (by omega)] at hP hD
                                            have e8 := set8 (k := k_11) (ws := [zzO qm 5 [.ref qmh, .ref qmo, .ref qmz, .ref qmR, .ref qmv, .ref qmk, .ref qma, .ref qmt, .int (nI kZ), .ref qmr, .int (nI (T_nb tA)), .ref qmB, .int (nI (T_np tA)), .ref qmO, .ref qmK, .int iEn, .int iTk, .int (T_sd tA), ov uP, ov uU, .int (nI kAt), .int iTo, .int iFr, .long JFi, .int iFa, .ref qm3, .int iSt, .int iLv, .int iWs, vLa, .ref qmu, .ref qmy, .ref qmb, .ref qms, .int iOm], zzI cy qmh 8 fMh, zzI cy qmo 8 fMo, zzI cy qmz 8 fMz, zzG cy 4 qmR rR, zzJ cy (rR 0) 40 (eJ_167 0), zzJ cy (rR 1) 40 (eJ_167 1), zzJ cy (rR 2) 40 (eJ_167 2), zzJ cy (rR 3) 40 (eJ_167 3), zzJ cy (rR 4) 40 (eJ_167 4), zzJ cy (rR 5) 40 (eJ_167 5), zzJ cy (rR 6) 40 (eJ_167 6), zzJ cy (rR 7) 40 (eJ_167 7), zzJ cy qmv 40 gJ_157, zzI cy qmr 8 fMr]) (ws' := [zzO qm 5 [.ref qmh, .ref qmo, .ref qmz, .ref qmR, .ref qmv, .ref qmk, .ref qma, .ref qmt, .int (nI kZ), .ref qmr, .int (nI (T_nb tA)), .ref qmB, .int (nI (T_np tA)), .ref qmO, .ref qmK, .int iEn, .int iTk, .int (T_sd tA), ov uP, ov uU, .int (nI kAt), .int iTo, .int iFr, .long JFi, .int iFa, .ref qm3, .int iSt, .int iLv, .int iWs, vLa, .ref qmu, .ref qmy, .ref qmb, .ref qms, .int iOm], zzI cy qmh 8 fMh, zzI cy qmo 8 fMo, zzI cy qmz 8 fMz, zzG cy 4 qmR rR, zzJ cy (rR 0) 40 (updN eJ_167 k_11 (k_150 + n_166) (gJ_157 n_166) 0), zzJ cy (rR 1) 40 (updN eJ_167 k_11 (k_150 + n_166) (gJ_157 n_166) 1), zzJ cy (rR 2) 40 (updN eJ_167 k_11 (k_150 + n_166) (gJ_157 n_166) 2), zzJ cy (rR 3) 40 (updN eJ_167 k_11 (k_150 + n_166) (gJ_157 n_166) 3), zzJ cy (rR 4) 40 (updN eJ_167 k_11 (k_150 + n_166) (gJ_157 n_166) 4), zzJ cy (rR 5) 40 (updN eJ_167 k_11 (k_150 + n_166) (gJ_157 n_166) 5), zzJ cy (rR 6) 40 (updN eJ_167 k_11 (k_150 + n_166) (gJ_157 n_166) 6), zzJ cy (rR 7) 40 (updN eJ_167 k_11 (k_150 + n_166) (gJ_157 n_166) 7), zzJ cy qmv 40 gJ_157, zzI cy qmr 8 fMr]) (sg8 (n0 := 5) (f := (fun j => zzJ cy (rR j) 40 (eJ_167 j))) rfl rfl rfl rfl rfl rfl rfl rfl) (sg8 (n0 := 5) (f := (fun j => zzJ cy (rR j) 40 (updN eJ_167 k_11 (k_150 + n_166) (gJ_157 n_166) j))) rfl rfl rfl rfl rfl rfl rfl rfl) rfl rfl (by omega) (congrArg (zzJ cy (rR k_11) 40) un_u) (fun j hj => congrArg (zzJ cy (rR j) 40) (un_n hj))
                                            rw [e8] at hP hD
                                            clear e8
                                            have hPD := pd_as [zzO qm 5 [.ref qmh, .ref qmo, .ref qmz, .ref qmR, .ref qmv, .ref qmk, .ref qma, .ref qmt, .int (nI kZ), .ref qmr, .int (nI (T_nb tA)), .ref qmB, .int (nI (T_np tA)), .ref qmO, .ref qmK, .int iEn, .int iTk, .int (T_sd tA), ov uP, ov uU, .int (nI kAt), .int iTo, .int iFr, .long JFi, .int iFa, .ref qm3, .int iSt, .int iLv, .int iWs, vLa, .ref qmu, .ref qmy, .ref qmb, .ref qms, .int iOm], zzI cy qmh 8 fMh, zzI cy qmo 8 fMo, zzI cy qmz 8 fMz, zzG cy 4 qmR rR, zzJ cy (rR 0) 40 (updN eJ_167 k_11 (k_150 + n_166) (gJ_157 n_166) 0), zzJ cy (rR 1) 40 (updN eJ_167 k_11 (k_150 + n_166) (gJ_157 n_166) 1), zzJ cy (rR 2) 40 (updN eJ_167 k_11 (k_150 + n_166) (gJ_157 n_166) 2), zzJ cy (rR 3) 40 (updN eJ_167 k_11 (k_150 + n_166) (gJ_157 n_166) 3), zzJ cy (rR 4) 40 (updN eJ_167 k_11 (k_150 + n_166) (gJ_157 n_166) 4), zzJ cy (rR 5) 40 (updN eJ_167 k_11 (k_150 + n_166) (gJ_157 n_166) 5), zzJ cy (rR 6) 40 (updN eJ_167 k_11 (k_150 + n_166) (gJ_157 n_166) 6), zzJ cy (rR 7) 40 (updN eJ_167 k_11 (k_150 + n_166) (gJ_157 n_166) 7), zzJ cy qmv 40 gJ_157, zzI cy qmr 8 fMr] hP hD rfl
                                            clear hP hD
                                            obtain ⟨hP, hD⟩ := hPD
                                            refine lv_iinc (v := nI (n_166 + 1)) (lv' := [(6, .int (nI (n_166 + 1))), (0, .ref qm), (1, .int (nI k_4)), (2, .int (nI k_11)), (3, .int (nI k_148)), (4, .int (nI k_150)), (5, .int (nI k_149))]) hx hb dX6_copy_251 hl (k := 0) rfl (nI_1 _) (by decide) rfl (fun ls => ?_)
                                            clear hl
                                            intro hl
                                            refine lv_goto (tgt := 225) hx hb dX6_copy_254 (by decide) ?_
                                            exact ih_165 (n_166 + 1) (updN eJ_167 k_11 (k_150 + n_166) (gJ_157 n_166)) (by omega) (by omega) (cp_stepN he_169 (hg_159 _ (by omega))) _ _ _ hP hD hS (lv_sub hl [0, 1, 2, 3, 4, 5, 6] rfl)
                                      exact lp_163 ((40 - 0) + 1) 0 eR (Nat.lt_succ_self _) (Nat.zero_le _) (fun s x => (if_neg (fun q => by omega)).symm) _ _ ls hP hD hS (lv_sub hl [0, 1, 2, 3, 4, 5, 6] rfl)
                                    · have hlt_174 : m_156 < k_149 := lp_lt rfl rfl (by omega) (by omega) c_161
                                      refine lv_aload_n hx hb dX6_copy_198 rfl (lv_at hl 1 rfl) ?_
                                      refine va_get (D := G) (ci := 5) (v := .ref qmv) (C := RX6) (T := TX6) (N := 35) hx hb hts iX_X6 hown hK hP 0 rfl rfl 4 (by decide) (hts _ m_t854) (fun _ h9 => h9) rfl dX6_copy_199 ?_
                                      refine lv_iload hx hb dX6_copy_202 (lv_at hl 0 rfl) ?_
                                      refine lv_aload_n hx hb dX6_copy_204 rfl (lv_at hl 1 rfl) ?_
                                      refine va_get (D := G) (ci := 5) (v := .ref qmR) (C := RX6) (T := TX6) (N := 35) hx hb hts iX_X6 hown hK hP 0 rfl rfl 3 (by decide) (hts _ m_t853) (fun _ h9 => h9) rfl dX6_copy_205 ?_
                                      refine lv_iload_n hx hb dX6_copy_208 rfl (lv_at hl 2 rfl) ?_
                                      refine va_alda hx hb hK hP 4 4 rfl rfl (in_shelf h_3) dX6_copy_209 ?_
                                      refine lv_setv (v := .ref (rR k_4)) (g_ref (by omega)) ?_
                                      refine lv_iload_n hx hb dX6_copy_210 rfl (lv_at hl 4 rfl) ?_
                                      refine lv_iload hx hb dX6_copy_211 (lv_at hl 0 rfl) ?_
                                      refine lv_iadd hx hb dX6_copy_213 ?_
                                      refine lv_seti (v := nI (k_148 + m_156)) (nI_add _ _) ?_
                                      refine va_lald hx hb hK hP (5 + k_4) 1 (sg8 (n0 := 5) (f := (fun j => zzJ cy (rR j) 40 (eR j))) rfl rfl rfl rfl rfl rfl rfl rfl k_4 (by omega)) rfl (vp_in_nI (by omega) (by omega)) dX6_copy_214 ?_
                                      refine lv_setl (v := eR k_4 (k_148 + m_156)) (congrArg (eR k_4) (nI_clamp (by omega))) ?_
                                      refine va_last hx hb hK hP hD hS 13 1 rfl rfl (vp_in_nI (by omega) (by omega)) dX6_copy_215 (fun H locs => ?_)
                                      clear hP hD hS
                                      intro hP hD hS
                                      rw [nI_clamp (n := m_156) (by omega)] at hP hD
                                      have hPD := pd_as [zzO qm 5 [.ref qmh, .ref qmo, .ref qmz, .ref qmR, .ref qmv, .ref qmk, .ref qma, .ref qmt, .int (nI kZ), .ref qmr, .int (nI (T_nb tA)), .ref qmB, .int (nI (T_np tA)), .ref qmO, .ref qmK, .int iEn, .int iTk, .int (T_sd tA), ov uP, ov uU, .int (nI kAt), .int iTo, .int iFr, .long JFi, .int iFa, .ref qm3, .int iSt, .int iLv, .int iWs, vLa, .ref qmu, .ref qmy, .ref qmb, .ref qms, .int iOm], zzI cy qmh 8 fMh, zzI cy qmo 8 fMo, zzI cy qmz 8 fMz, zzG cy 4 qmR rR, zzJ cy (rR 0) 40 (eR 0), zzJ cy (rR 1) 40 (eR 1), zzJ cy (rR 2) 40 (eR 2), zzJ cy (rR 3) 40 (eR 3), zzJ cy (rR 4) 40 (eR 4), zzJ cy (rR 5) 40 (eR 5), zzJ cy (rR 6) 40 (eR 6), zzJ cy (rR 7) 40 (eR 7), zzJ cy qmv 40 (vp_updL gJ_157 m_156 (eR k_4 (k_148 + m_156))), zzI cy qmr 8 fMr] hP hD rfl
                                      clear hP hD
                                      obtain ⟨hP, hD⟩ := hPD
                                      refine lv_iinc (v := nI (m_156 + 1)) (lv' := [(6, .int (nI (m_156 + 1))), (0, .ref qm), (1, .int (nI k_4)), (2, .int (nI k_11)), (3, .int (nI k_148)), (4, .int (nI k_150)), (5, .int (nI k_149))]) hx hb dX6_copy_216 hl (k := 0) rfl (nI_1 _) (by decide) rfl (fun ls => ?_)
                                      clear hl
                                      intro hl
                                      refine lv_goto (tgt := 191) hx hb dX6_copy_219 (by decide) ?_
                                      exact ih_155 (m_156 + 1) (vp_updL gJ_157 m_156 (eR k_4 (k_148 + m_156))) (by omega) (by omega) (cp_stepL hg_159) _ _ _ hP hD hS (lv_sub hl [0, 1, 2, 3, 4, 5, 6] rfl)
                                exact lp_153 ((40 - 0) + 1) 0 gMv (Nat.lt_succ_self _) (Nat.zero_le _) (fun x h => absurd h (Nat.not_lt_zero _)) _ _ ls hP hD hS (lv_sub hl [0, 1, 2, 3, 4, 5, 6] rfl)
                              · refine lv_aload_n hx hb dX6_copy_181 rfl (lv_at hl 0 rfl) ?_
                                refine lv_bipush (v := (-2)) hx hb dX6_copy_182 (by decide) ?_
                                refine cVi (As := [.int (-2)]) (rest := []) (b := qm) (q := (RX6, TX6, 35)) ⟨hx, hb, hml, hown, hts⟩ (c_X6_refuse2 l G cy (s.heap).size qm (.ref qmh) (.ref qmo) (.ref qmz) (.ref qmR) (.ref qmv) (.ref qmk) (.ref qma) (.ref qmt) (.int (nI kZ)) qmr tA qmB qmO qmK iEn iTk (ov uP) (ov uU) (.int (nI kAt)) (.int iTo) (.int iFr) (.long JFi) (.int iFa) (.ref qm3) (.int iSt) iLv iWs vLa (.ref qmu) (.ref qmy) (.ref qmb) (.ref qms) (.int iOm) fMr) L_X6_91 hN hP hD hS hA [0, 14] [false, true, true, true, true, true, true, true, true, true, true, true, true, true, false] rfl (by decide +kernel) rfl 0 5 rfl rfl rfl ⟨Nat.le_of_ble_eq_true rfl, Nat.le_of_ble_eq_true rfl⟩ hl.1 (Nat.le_of_ble_eq_true rfl) dX6_copy_184 ⟨Nat.le_of_ble_eq_true rfl, Nat.le_of_ble_eq_true rfl⟩ (fun r_175 u_177 H locs h_176 => ?_)
                                clear hP hD hS
                                intro hP hD hS
                                obtain ⟨fX_178, rfl, h_176⟩ := h_176
                                have hPD := pd_as [zzI cy qmh 8 fMh, zzI cy qmo 8 fMo, zzI cy qmz 8 fMz, zzG cy 4 qmR rR, zzJ cy (rR 0) 40 (eR 0), zzJ cy (rR 1) 40 (eR 1), zzJ cy (rR 2) 40 (eR 2), zzJ cy (rR 3) 40 (eR 3), zzJ cy (rR 4) 40 (eR 4), zzJ cy (rR 5) 40 (eR 5), zzJ cy (rR 6) 40 (eR 6), zzJ cy (rR 7) 40 (eR 7), zzJ cy qmv 40 gMv, zzO qm 5 [.ref qmh, .ref qmo, .ref qmz, .ref qmR, .ref qmv, .ref qmk, .ref qma, .ref qmt, .int (nI kZ), .ref qmr, .int (nI (T_nb tA)), .ref qmB, .int (nI (T_np tA)), .ref qmO, .ref qmK, .int iEn, .int iTk, .int (T_sd tA), ov uP, ov uU, .int (nI kAt), .int iTo, .int iFr, .long JFi, .int iFa, .ref qm3, .int iSt, .int iLv, .int iWs, vLa, .ref qmu, .ref qmy, .ref qmb, .ref qms, .int iOm], zzI cy qmr 8 fX_178] hP hD rfl
                                clear hP hD
                                obtain ⟨hP, hD⟩ := hPD
                                subst h_176
                                exact endW (u := [zzO qm 5 [.ref qmh, .ref qmo, .ref qmz, .ref qmR, .ref qmv, .ref qmk, .ref qma, .ref qmt, .int (nI kZ), .ref qmr, .int (nI (T_nb tA)), .ref qmB, .int (nI (T_np tA)), .ref qmO, .ref qmK, .int iEn, .int iTk, .int (T_sd tA), ov uP, ov uU, .int (nI kAt), .int iTo, .int iFr, .long JFi, .int iFa, .ref qm3, .int iSt, .int iLv, .int iWs, vLa, .ref qmu, .ref qmy, .ref qmb, .ref qms, .int iOm], zzI cy qmh 8 fMh, zzI cy qmo 8 fMo, zzI cy qmz 8 fMz, zzG cy 4 qmR rR, zzJ cy (rR 0) 40 (eR 0), zzJ cy (rR 1) 40 (eR 1), zzJ cy (rR 2) 40 (eR 2), zzJ cy (rR 3) 40 (eR 3), zzJ cy (rR 4) 40 (eR 4), zzJ cy (rR 5) 40 (eR 5), zzJ cy (rR 6) 40 (eR 6), zzJ cy (rR 7) 40 (eR 7), zzJ cy qmv 40 gMv, zzI cy qmr 8 fX_178]) hx hb hr hlocks rfl (hP.sub [13, 0, 1, 2, 3, 4, 5, 6, 7, 8, 9, 10, 11, 12, 14] rfl) (hD.sub [13, 0, 1, 2, 3, 4, 5, 6, 7, 8, 9, 10, 11, 12, 14] (by decide +kernel) rfl) hS ⟨eR, gMv, fX_178, rfl, Or.inl ⟨rfl, Or.inr ⟨k_4, k_11, by omega, by omega, rfl, rfl, c_15, c_20, c_105, c_110, (fun h1 h2 => absurd h2 c_104), (fun q => c_141 (q.2.2.2.2.2.2))⟩, rfl⟩, trivial⟩ dX6_copy_187
                · refine lv_aload_n hx hb dX6_copy_111 rfl (lv_at hl 0 rfl) ?_
                  refine lv_bipush (v := (-4)) hx hb dX6_copy_112 (by decide) ?_
                  refine cVi (As := [.int (-4)]) (rest := []) (b := qm) (q := (RX6, TX6, 35)) ⟨hx, hb, hml, hown, hts⟩ (c_X6_refuse4 l G cy (s.heap).size qm (.ref qmh) (.ref qmo) (.ref qmz) (.ref qmR) (.ref qmv) (.ref qmk) (.ref qma) (.ref qmt) (.int (nI kZ)) qmr tA qmB qmO qmK iEn iTk (ov uP) (ov uU) (.int (nI kAt)) (.int iTo) (.int iFr) (.long JFi) (.int iFa) (.ref qm3) (.int iSt) iLv iWs vLa (.ref qmu) (.ref qmy) (.ref qmb) (.ref qms) (.int iOm) fMr) L_X6_91 hN hP hD hS hA [0, 14] [false, true, true, true, true, true, true, true, true, true, true, true, true, true, false] rfl (by decide +kernel) rfl 0 5 rfl rfl rfl ⟨Nat.le_of_ble_eq_true rfl, Nat.le_of_ble_eq_true rfl⟩ hl.1 (Nat.le_of_ble_eq_true rfl) dX6_copy_114 ⟨Nat.le_of_ble_eq_true rfl, Nat.le_of_ble_eq_true rfl⟩ (fun r_179 u_181 H locs h_180 => ?_)
                  clear hP hD hS
                  intro hP hD hS
                  obtain ⟨fX_182, rfl, h_180⟩ := h_180
                  have hPD := pd_as [zzI cy qmh 8 fMh, zzI cy qmo 8 fMo, zzI cy qmz 8 fMz, zzG cy 4 qmR rR, zzJ cy (rR 0) 40 (eR 0), zzJ cy (rR 1) 40 (eR 1), zzJ cy (rR 2) 40 (eR 2), zzJ cy (rR 3) 40 (eR 3), zzJ cy (rR 4) 40 (eR 4), zzJ cy (rR 5) 40 (eR 5), zzJ cy (rR 6) 40 (eR 6), zzJ cy (rR 7) 40 (eR 7), zzJ cy qmv 40 gMv, zzO qm 5 [.ref qmh, .ref qmo, .ref qmz, .ref qmR, .ref qmv, .ref qmk, .ref qma, .ref qmt, .int (nI kZ), .ref qmr, .int (nI (T_nb tA)), .ref qmB, .int (nI (T_np tA)), .ref qmO, .ref qmK, .int iEn, .int iTk, .int (T_sd tA), ov uP, ov uU, .int (nI kAt), .int iTo, .int iFr, .long JFi, .int iFa, .ref qm3, .int iSt, .int iLv, .int iWs, vLa, .ref qmu, .ref qmy, .ref qmb, .ref qms, .int iOm], zzI cy qmr 8 fX_182] hP hD rfl
                  clear hP hD
                  obtain ⟨hP, hD⟩ := hPD
                  subst h_180
                  exact endW (u := [zzO qm 5 [.ref qmh, .ref qmo, .ref qmz, .ref qmR, .ref qmv, .ref qmk, .ref qma, .ref qmt, .int (nI kZ), .ref qmr, .int (nI (T_nb tA)), .ref qmB, .int (nI (T_np tA)), .ref qmO, .ref qmK, .int iEn, .int iTk, .int (T_sd tA), ov uP, ov uU, .int (nI kAt), .int iTo, .int iFr, .long JFi, .int iFa, .ref qm3, .int iSt, .int iLv, .int iWs, vLa, .ref qmu, .ref qmy, .ref qmb, .ref qms, .int iOm], zzI cy qmh 8 fMh, zzI cy qmo 8 fMo, zzI cy qmz 8 fMz, zzG cy 4 qmR rR, zzJ cy (rR 0) 40 (eR 0), zzJ cy (rR 1) 40 (eR 1), zzJ cy (rR 2) 40 (eR 2), zzJ cy (rR 3) 40 (eR 3), zzJ cy (rR 4) 40 (eR 4), zzJ cy (rR 5) 40 (eR 5), zzJ cy (rR 6) 40 (eR 6), zzJ cy (rR 7) 40 (eR 7), zzJ cy qmv 40 gMv, zzI cy qmr 8 fX_182]) hx hb hr hlocks rfl (hP.sub [13, 0, 1, 2, 3, 4, 5, 6, 7, 8, 9, 10, 11, 12, 14] rfl) (hD.sub [13, 0, 1, 2, 3, 4, 5, 6, 7, 8, 9, 10, 11, 12, 14] (by decide +kernel) rfl) hS ⟨eR, gMv, fX_182, rfl, Or.inr (Or.inr (Or.inl ⟨rfl, ⟨k_4, k_11, by omega, by omega, rfl, rfl, c_15, c_20, Or.inr c_110⟩, rfl⟩)), trivial⟩ dX6_copy_117
            · refine lv_aload_n hx hb dX6_copy_71 rfl (lv_at hl 0 rfl) ?_
              refine va_get (D := G) (ci := 5) (v := .ref qmo) (C := RX6) (T := TX6) (N := 35) hx hb hts iX_X6 hown hK hP 0 rfl rfl 1 (by decide) (hts _ m_t851) (fun _ h9 => h9) rfl dX6_copy_72 ?_
              refine lv_iload_n hx hb dX6_copy_75 rfl (lv_at hl 1 rfl) ?_
              refine va_iald hx hb hK hP 2 0 rfl rfl (in_shelf h_3) dX6_copy_76 ?_
              refine lv_seti (v := fMo k_4) (congrArg fMo (cl8 (by omega))) ?_
              refine lv_aload_n hx hb dX6_copy_77 rfl (lv_at hl 0 rfl) ?_
              refine va_get (D := G) (ci := 5) (v := .ref qmo) (C := RX6) (T := TX6) (N := 35) hx hb hts iX_X6 hown hK hP 0 rfl rfl 1 (by decide) (hts _ m_t851) (fun _ h9 => h9) rfl dX6_copy_78 ?_
              refine lv_iload_n hx hb dX6_copy_81 rfl (lv_at hl 2 rfl) ?_
              refine va_iald hx hb hK hP 2 0 rfl rfl (in_shelf h_10) dX6_copy_82 ?_
              refine lv_seti (v := fMo k_11) (congrArg fMo (cl8 (by omega))) ?_
              refine lv_icmp_eq (tgt := 93) hx hb dX6_copy_83 (by decide) (fun c_183 => ?_) (fun c_183 => ?_)
              · refine lv_aload_n hx hb dX6_copy_93 rfl (lv_at hl 0 rfl) ?_
                refine va_get (D := G) (ci := 5) (v := .ref qmh) (C := RX6) (T := TX6) (N := 35) hx hb hts iX_X6 hown hK hP 0 rfl rfl 0 (by decide) (hts _ m_t850) (fun _ h9 => h9) rfl dX6_copy_94 ?_
                refine lv_iload_n hx hb dX6_copy_97 rfl (lv_at hl 1 rfl) ?_
                refine va_iald hx hb hK hP 1 0 rfl rfl (in_shelf h_3) dX6_copy_98 ?_
                refine lv_seti (v := fMh k_4) (congrArg fMh (cl8 (by omega))) ?_
                refine lv_if_eq (tgt := 111) hx hb dX6_copy_99 (by decide) (fun c_184 => ?_) (fun c_184 => ?_)
                · refine lv_aload_n hx hb dX6_copy_111 rfl (lv_at hl 0 rfl) ?_
                  refine lv_bipush (v := (-4)) hx hb dX6_copy_112 (by decide) ?_
                  refine cVi (As := [.int (-4)]) (rest := []) (b := qm) (q := (RX6, TX6, 35)) ⟨hx, hb, hml, hown, hts⟩ (c_X6_refuse4 l G cy (s.heap).size qm (.ref qmh) (.ref qmo) (.ref qmz) (.ref qmR) (.ref qmv) (.ref qmk) (.ref qma) (.ref qmt) (.int (nI kZ)) qmr tA qmB qmO qmK iEn iTk (ov uP) (ov uU) (.int (nI kAt)) (.int iTo) (.int iFr) (.long JFi) (.int iFa) (.ref qm3) (.int iSt) iLv iWs vLa (.ref qmu) (.ref qmy) (.ref qmb) (.ref qms) (.int iOm) fMr) L_X6_91 hN hP hD hS hA [0, 14] [false, true, true, true, true, true, true, true, true, true, true, true, true, true, false] rfl (by decide +kernel) rfl 0 5 rfl rfl rfl ⟨Nat.le_of_ble_eq_true rfl, Nat.le_of_ble_eq_true rfl⟩ hl.1 (Nat.le_of_ble_eq_true rfl) dX6_copy_114 ⟨Nat.le_of_ble_eq_true rfl, Nat.le_of_ble_eq_true rfl⟩ (fun r_185 u_187 H locs h_186 => ?_)
                  clear hP hD hS
                  intro hP hD hS
                  obtain ⟨fX_188, rfl, h_186⟩ := h_186
                  have hPD := pd_as [zzI cy qmh 8 fMh, zzI cy qmo 8 fMo, zzI cy qmz 8 fMz, zzG cy 4 qmR rR, zzJ cy (rR 0) 40 (eR 0), zzJ cy (rR 1) 40 (eR 1), zzJ cy (rR 2) 40 (eR 2), zzJ cy (rR 3) 40 (eR 3), zzJ cy (rR 4) 40 (eR 4), zzJ cy (rR 5) 40 (eR 5), zzJ cy (rR 6) 40 (eR 6), zzJ cy (rR 7) 40 (eR 7), zzJ cy qmv 40 gMv, zzO qm 5 [.ref qmh, .ref qmo, .ref qmz, .ref qmR, .ref qmv, .ref qmk, .ref qma, .ref qmt, .int (nI kZ), .ref qmr, .int (nI (T_nb tA)), .ref qmB, .int (nI (T_np tA)), .ref qmO, .ref qmK, .int iEn, .int iTk, .int (T_sd tA), ov uP, ov uU, .int (nI kAt), .int iTo, .int iFr, .long JFi, .int iFa, .ref qm3, .int iSt, .int iLv, .int iWs, vLa, .ref qmu, .ref qmy, .ref qmb, .ref qms, .int iOm], zzI cy qmr 8 fX_188] hP hD rfl
                  clear hP hD
                  obtain ⟨hP, hD⟩ := hPD
                  subst h_186
                  exact endW (u := [zzO qm 5 [.ref qmh, .ref qmo, .ref qmz, .ref qmR, .ref qmv, .ref qmk, .ref qma, .ref qmt, .int (nI kZ), .ref qmr, .int (nI (T_nb tA)), .ref qmB, .int (nI (T_np tA)), .ref qmO, .ref qmK, .int iEn, .int iTk, .int (T_sd tA), ov uP, ov uU, .int (nI kAt), .int iTo, .int iFr, .long JFi, .int iFa, .ref qm3, .int iSt, .int iLv, .int iWs, vLa, .ref qmu, .ref qmy, .ref qmb, .ref qms, .int iOm], zzI cy qmh 8 fMh, zzI cy qmo 8 fMo, zzI cy qmz 8 fMz, zzG cy 4 qmR rR, zzJ cy (rR 0) 40 (eR 0), zzJ cy (rR 1) 40 (eR 1), zzJ cy (rR 2) 40 (eR 2), zzJ cy (rR 3) 40 (eR 3), zzJ cy (rR 4) 40 (eR 4), zzJ cy (rR 5) 40 (eR 5), zzJ cy (rR 6) 40 (eR 6), zzJ cy (rR 7) 40 (eR 7), zzJ cy qmv 40 gMv, zzI cy qmr 8 fX_188]) hx hb hr hlocks rfl (hP.sub [13, 0, 1, 2, 3, 4, 5, 6, 7, 8, 9, 10, 11, 12, 14] rfl) (hD.sub [13, 0, 1, 2, 3, 4, 5, 6, 7, 8, 9, 10, 11, 12, 14] (by decide +kernel) rfl) hS ⟨eR, gMv, fX_188, rfl, Or.inr (Or.inr (Or.inl ⟨rfl, ⟨k_4, k_11, by omega, by omega, rfl, rfl, c_15, c_20, Or.inl c_184⟩, rfl⟩)), trivial⟩ dX6_copy_117
                · refine lv_aload_n hx hb dX6_copy_102 rfl (lv_at hl 0 rfl) ?_
                  refine va_get (D := G) (ci := 5) (v := .ref qmh) (C := RX6) (T := TX6) (N := 35) hx hb hts iX_X6 hown hK hP 0 rfl rfl 0 (by decide) (hts _ m_t850) (fun _ h9 => h9) rfl dX6_copy_103 ?_
                  refine lv_iload_n hx hb dX6_copy_106 rfl (lv_at hl 2 rfl) ?_
                  refine va_iald hx hb hK hP 1 0 rfl rfl (in_shelf h_10) dX6_copy_107 ?_
                  refine lv_seti (v := fMh k_11) (congrArg fMh (cl8 (by omega))) ?_
                  refine lv_if_ne (tgt := 118) hx hb dX6_copy_108 (by decide) (fun c_189 => ?_) (fun c_189 => ?_)
                  · refine lv_iload hx hb dX6_copy_118 (lv_at hl 5 rfl) ?_
                    refine lv_if_lt (tgt := 181) hx hb dX6_copy_120 (by decide) (fun c_190 => ?_) (fun c_190 => ?_)
                    · refine lv_aload_n hx hb dX6_copy_181 rfl (lv_at hl 0 rfl) ?_
                      refine lv_bipush (v := (-2)) hx hb dX6_copy_182 (by decide) ?_
                      refine cVi (As := [.int (-2)]) (rest := []) (b := qm) (q := (RX6, TX6, 35)) ⟨hx, hb, hml, hown, hts⟩ (c_X6_refuse2 l G cy (s.heap).size qm (.ref qmh) (.ref qmo) (.ref qmz) (.ref qmR) (.ref qmv) (.ref qmk) (.ref qma) (.ref qmt) (.int (nI kZ)) qmr tA qmB qmO qmK iEn iTk (ov uP) (ov uU) (.int (nI kAt)) (.int iTo) (.int iFr) (.long JFi) (.int iFa) (.ref qm3) (.int iSt) iLv iWs vLa (.ref qmu) (.ref qmy) (.ref qmb) (.ref qms) (.int iOm) fMr) L_X6_91 hN hP hD hS hA [0, 14] [false, true, true, true, true, true, true, true, true, true, true, true, true, true, false] rfl (by decide +kernel) rfl 0 5 rfl rfl rfl ⟨Nat.le_of_ble_eq_true rfl, Nat.le_of_ble_eq_true rfl⟩ hl.1 (Nat.le_of_ble_eq_true rfl) dX6_copy_184 ⟨Nat.le_of_ble_eq_true rfl, Nat.le_of_ble_eq_true rfl⟩ (fun r_191 u_193 H locs h_192 => ?_)
                      clear hP hD hS
                      intro hP hD hS
                      obtain ⟨fX_194, rfl, h_192⟩ := h_192
                      have hPD := pd_as [zzI cy qmh 8 fMh, zzI cy qmo 8 fMo, zzI cy qmz 8 fMz, zzG cy 4 qmR rR, zzJ cy (rR 0) 40 (eR 0), zzJ cy (rR 1) 40 (eR 1), zzJ cy (rR 2) 40 (eR 2), zzJ cy (rR 3) 40 (eR 3), zzJ cy (rR 4) 40 (eR 4), zzJ cy (rR 5) 40 (eR 5), zzJ cy (rR 6) 40 (eR 6), zzJ cy (rR 7) 40 (eR 7), zzJ cy qmv 40 gMv, zzO qm 5 [.ref qmh, .ref qmo, .ref qmz, .ref qmR, .ref qmv, .ref qmk, .ref qma, .ref qmt, .int (nI kZ), .ref qmr, .int (nI (T_nb tA)), .ref qmB, .int (nI (T_np tA)), .ref qmO, .ref qmK, .int iEn, .int iTk, .int (T_sd tA), ov uP, ov uU, .int (nI kAt), .int iTo, .int iFr, .long JFi, .int iFa, .ref qm3, .int iSt, .int iLv, .int iWs, vLa, .ref qmu, .ref qmy, .ref qmb, .ref qms, .int iOm], zzI cy qmr 8 fX_194] hP hD rfl
                      clear hP hD
                      obtain ⟨hP, hD⟩ := hPD
                      subst h_192
                      exact endW (u := [zzO qm 5 [.ref qmh, .ref qmo, .ref qmz, .ref qmR, .ref qmv, .ref qmk, .ref qma, .ref qmt, .int (nI kZ), .ref qmr, .int (nI (T_nb tA)), .ref qmB, .int (nI (T_np tA)), .ref qmO, .ref qmK, .int iEn, .int iTk, .int (T_sd tA), ov uP, ov uU, .int (nI kAt), .int iTo, .int iFr, .long JFi, .int iFa, .ref qm3, .int iSt, .int iLv, .int iWs, vLa, .ref qmu, .ref qmy, .ref qmb, .ref qms, .int iOm], zzI cy qmh 8 fMh, zzI cy qmo 8 fMo, zzI cy qmz 8 fMz, zzG cy 4 qmR rR, zzJ cy (rR 0) 40 (eR 0), zzJ cy (rR 1) 40 (eR 1), zzJ cy (rR 2) 40 (eR 2), zzJ cy (rR 3) 40 (eR 3), zzJ cy (rR 4) 40 (eR 4), zzJ cy (rR 5) 40 (eR 5), zzJ cy (rR 6) 40 (eR 6), zzJ cy (rR 7) 40 (eR 7), zzJ cy qmv 40 gMv, zzI cy qmr 8 fX_194]) hx hb hr hlocks rfl (hP.sub [13, 0, 1, 2, 3, 4, 5, 6, 7, 8, 9, 10, 11, 12, 14] rfl) (hD.sub [13, 0, 1, 2, 3, 4, 5, 6, 7, 8, 9, 10, 11, 12, 14] (by decide +kernel) rfl) hS ⟨eR, gMv, fX_194, rfl, Or.inl ⟨rfl, Or.inr ⟨k_4, k_11, by omega, by omega, rfl, rfl, c_15, c_20, c_184, c_189, (fun h1 h2 => c_183), (fun q => q.1 c_190)⟩, rfl⟩, trivial⟩ dX6_copy_187
                    · refine lv_iload_n hx hb dX6_copy_123 rfl (lv_at hl 3 rfl) ?_
                      refine lv_if_lt (tgt := 181) hx hb dX6_copy_124 (by decide) (fun c_195 => ?_) (fun c_195 => ?_)
                      · refine lv_aload_n hx hb dX6_copy_181 rfl (lv_at hl 0 rfl) ?_
                        refine lv_bipush (v := (-2)) hx hb dX6_copy_182 (by decide) ?_
                        refine cVi (As := [.int (-2)]) (rest := []) (b := qm) (q := (RX6, TX6, 35)) ⟨hx, hb, hml, hown, hts⟩ (c_X6_refuse2 l G cy (s.heap).size qm (.ref qmh) (.ref qmo) (.ref qmz) (.ref qmR) (.ref qmv) (.ref qmk) (.ref qma) (.ref qmt) (.int (nI kZ)) qmr tA qmB qmO qmK iEn iTk (ov uP) (ov uU) (.int (nI kAt)) (.int iTo) (.int iFr) (.long JFi) (.int iFa) (.ref qm3) (.int iSt) iLv iWs vLa (.ref qmu) (.ref qmy) (.ref qmb) (.ref qms) (.int iOm) fMr) L_X6_91 hN hP hD hS hA [0, 14] [false, true, true, true, true, true, true, true, true, true, true, true, true, true, false] rfl (by decide +kernel) rfl 0 5 rfl rfl rfl ⟨Nat.le_of_ble_eq_true rfl, Nat.le_of_ble_eq_true rfl⟩ hl.1 (Nat.le_of_ble_eq_true rfl) dX6_copy_184 ⟨Nat.le_of_ble_eq_true rfl, Nat.le_of_ble_eq_true rfl⟩ (fun r_196 u_198 H locs h_197 => ?_)
                        clear hP hD hS
                        intro hP hD hS
                        obtain ⟨fX_199, rfl, h_197⟩ := h_197
                        have hPD := pd_as [zzI cy qmh 8 fMh, zzI cy qmo 8 fMo, zzI cy qmz 8 fMz, zzG cy 4 qmR rR, zzJ cy (rR 0) 40 (eR 0), zzJ cy (rR 1) 40 (eR 1), zzJ cy (rR 2) 40 (eR 2), zzJ cy (rR 3) 40 (eR 3), zzJ cy (rR 4) 40 (eR 4), zzJ cy (rR 5) 40 (eR 5), zzJ cy (rR 6) 40 (eR 6), zzJ cy (rR 7) 40 (eR 7), zzJ cy qmv 40 gMv, zzO qm 5 [.ref qmh, .ref qmo, .ref qmz, .ref qmR, .ref qmv, .ref qmk, .ref qma, .ref qmt, .int (nI kZ), .ref qmr, .int (nI (T_nb tA)), .ref qmB, .int (nI (T_np tA)), .ref qmO, .ref qmK, .int iEn, .int iTk, .int (T_sd tA), ov uP, ov uU, .int (nI kAt), .int iTo, .int iFr, .long JFi, .int iFa, .ref qm3, .int iSt, .int iLv, .int iWs, vLa, .ref qmu, .ref qmy, .ref qmb, .ref qms, .int iOm], zzI cy qmr 8 fX_199] hP hD rfl
                        clear hP hD
                        obtain ⟨hP, hD⟩ := hPD
                        subst h_197
                        exact endW (u := [zzO qm 5 [.ref qmh, .ref qmo, .ref qmz, .ref qmR, .ref qmv, .ref qmk, .ref qma, .ref qmt, .int (nI kZ), .ref qmr, .int (nI (T_nb tA)), .ref qmB, .int (nI (T_np tA)), .ref qmO, .ref qmK, .int iEn, .int iTk, .int (T_sd tA), ov uP, ov uU, .int (nI kAt), .int iTo, .int iFr, .long JFi, .int iFa, .ref qm3, .int iSt, .int iLv, .int iWs, vLa, .ref qmu, .ref qmy, .ref qmb, .ref qms, .int iOm], zzI cy qmh 8 fMh, zzI cy qmo 8 fMo, zzI cy qmz 8 fMz, zzG cy 4 qmR rR, zzJ cy (rR 0) 40 (eR 0), zzJ cy (rR 1) 40 (eR 1), zzJ cy (rR 2) 40 (eR 2), zzJ cy (rR 3) 40 (eR 3), zzJ cy (rR 4) 40 (eR 4), zzJ cy (rR 5) 40 (eR 5), zzJ cy (rR 6) 40 (eR 6), zzJ cy (rR 7) 40 (eR 7), zzJ cy qmv 40 gMv, zzI cy qmr 8 fX_199]) hx hb hr hlocks rfl (hP.sub [13, 0, 1, 2, 3, 4, 5, 6, 7, 8, 9, 10, 11, 12, 14] rfl) (hD.sub [13, 0, 1, 2, 3, 4, 5, 6, 7, 8, 9, 10, 11, 12, 14] (by decide +kernel) rfl) hS ⟨eR, gMv, fX_199, rfl, Or.inl ⟨rfl, Or.inr ⟨k_4, k_11, by omega, by omega, rfl, rfl, c_15, c_20, c_184, c_189, (fun h1 h2 => c_183), (fun q => q.2.1 c_195)⟩, rfl⟩, trivial⟩ dX6_copy_187
                      · refine lv_iload hx hb dX6_copy_127 (lv_at hl 4 rfl) ?_
                        refine lv_if_lt (tgt := 181) hx hb dX6_copy_129 (by decide) (fun c_200 => ?_) (fun c_200 => ?_)
                        · refine lv_aload_n hx hb dX6_copy_181 rfl (lv_at hl 0 rfl) ?_
                          refine lv_bipush (v := (-2)) hx hb dX6_copy_182 (by decide) ?_
                          refine cVi (As := [.int (-2)]) (rest := []) (b := qm) (q := (RX6, TX6, 35)) ⟨hx, hb, hml, hown, hts⟩ (c_X6_refuse2 l G cy (s.heap).size qm (.ref qmh) (.ref qmo) (.ref qmz) (.ref qmR) (.ref qmv) (.ref qmk) (.ref qma) (.ref qmt) (.int (nI kZ)) qmr tA qmB qmO qmK iEn iTk (ov uP) (ov uU) (.int (nI kAt)) (.int iTo) (.int iFr) (.long JFi) (.int iFa) (.ref qm3) (.int iSt) iLv iWs vLa (.ref qmu) (.ref qmy) (.ref qmb) (.ref qms) (.int iOm) fMr) L_X6_91 hN hP hD hS hA [0, 14] [false, true, true, true, true, true, true, true, true, true, true, true, true, true, false] rfl (by decide +kernel) rfl 0 5 rfl rfl rfl ⟨Nat.le_of_ble_eq_true rfl, Nat.le_of_ble_eq_true rfl⟩ hl.1 (Nat.le_of_ble_eq_true rfl) dX6_copy_184 ⟨Nat.le_of_ble_eq_true rfl, Nat.le_of_ble_eq_true rfl⟩ (fun r_201 u_203 H locs h_202 => ?_)
                          clear hP hD hS
                          intro hP hD hS
                          obtain ⟨fX_204, rfl, h_202⟩ := h_202
                          have hPD := pd_as [zzI cy qmh 8 fMh, zzI cy qmo 8 fMo, zzI cy qmz 8 fMz, zzG cy 4 qmR rR, zzJ cy (rR 0) 40 (eR 0), zzJ cy (rR 1) 40 (eR 1), zzJ cy (rR 2) 40 (eR 2), zzJ cy (rR 3) 40 (eR 3), zzJ cy (rR 4) 40 (eR 4), zzJ cy (rR 5) 40 (eR 5), zzJ cy (rR 6) 40 (eR 6), zzJ cy (rR 7) 40 (eR 7), zzJ cy qmv 40 gMv, zzO qm 5 [.ref qmh, .ref qmo, .ref qmz, .ref qmR, .ref qmv, .ref qmk, .ref qma, .ref qmt, .int (nI kZ), .ref qmr, .int (nI (T_nb tA)), .ref qmB, .int (nI (T_np tA)), .ref qmO, .ref qmK, .int iEn, .int iTk, .int (T_sd tA), ov uP, ov uU, .int (nI kAt), .int iTo, .int iFr, .long JFi, .int iFa, .ref qm3, .int iSt, .int iLv, .int iWs, vLa, .ref qmu, .ref qmy, .ref qmb, .ref qms, .int iOm], zzI cy qmr 8 fX_204] hP hD rfl
                          clear hP hD
                          obtain ⟨hP, hD⟩ := hPD
                          subst h_202
                          exact endW (u := [zzO qm 5 [.ref qmh, .ref qmo, .ref qmz, .ref qmR, .ref qmv, .ref qmk, .ref qma, .ref qmt, .int (nI kZ), .ref qmr, .int (nI (T_nb tA)), .ref qmB, .int (nI (T_np tA)), .ref qmO, .ref qmK, .int iEn, .int iTk, .int (T_sd tA), ov uP, ov uU, .int (nI kAt), .int iTo, .int iFr, .long JFi, .int iFa, .ref qm3, .int iSt, .int iLv, .int iWs, vLa, .ref qmu, .ref qmy, .ref qmb, .ref qms, .int iOm], zzI cy qmh 8 fMh, zzI cy qmo 8 fMo, zzI cy qmz 8 fMz, zzG cy 4 qmR rR, zzJ cy (rR 0) 40 (eR 0), zzJ cy (rR 1) 40 (eR 1), zzJ cy (rR 2) 40 (eR 2), zzJ cy (rR 3) 40 (eR 3), zzJ cy (rR 4) 40 (eR 4), zzJ cy (rR 5) 40 (eR 5), zzJ cy (rR 6) 40 (eR 6), zzJ cy (rR 7) 40 (eR 7), zzJ cy qmv 40 gMv, zzI cy qmr 8 fX_204]) hx hb hr hlocks rfl (hP.sub [13, 0, 1, 2, 3, 4, 5, 6, 7, 8, 9, 10, 11, 12, 14] rfl) (hD.sub [13, 0, 1, 2, 3, 4, 5, 6, 7, 8, 9, 10, 11, 12, 14] (by decide +kernel) rfl) hS ⟨eR, gMv, fX_204, rfl, Or.inl ⟨rfl, Or.inr ⟨k_4, k_11, by omega, by omega, rfl, rfl, c_15, c_20, c_184, c_189, (fun h1 h2 => c_183), (fun q => q.2.2.1 c_200)⟩, rfl⟩, trivial⟩ dX6_copy_187
                        · refine lv_iload hx hb dX6_copy_132 (lv_at hl 5 rfl) ?_
                          refine lv_aload_n hx hb dX6_copy_134 rfl (lv_at hl 0 rfl) ?_
                          refine va_get (D := G) (ci := 5) (v := .ref qmz) (C := RX6) (T := TX6) (N := 35) hx hb hts iX_X6 hown hK hP 0 rfl rfl 2 (by decide) (hts _ m_t852) (fun _ h9 => h9) rfl dX6_copy_135 ?_
                          refine lv_iload_n hx hb dX6_copy_138 rfl (lv_at hl 1 rfl) ?_
                          refine va_iald hx hb hK hP 3 0 rfl rfl (in_shelf h_3) dX6_copy_139 ?_
                          refine lv_seti (v := fMz k_4) (congrArg fMz (cl8 (by omega))) ?_
                          refine lv_icmp_gt (tgt := 181) hx hb dX6_copy_140 (by decide) (fun c_205 => ?_) (fun c_205 => ?_)
                          · refine lv_aload_n hx hb dX6_copy_181 rfl (lv_at hl 0 rfl) ?_
                            refine lv_bipush (v := (-2)) hx hb dX6_copy_182 (by decide) ?_
                            refine cVi (As := [.int (-2)]) (rest := []) (b := qm) (q := (RX6, TX6, 35)) ⟨hx, hb, hml, hown, hts⟩ (c_X6_refuse2 l G cy (s.heap).size qm (.ref qmh) (.ref qmo) (.ref qmz) (.ref qmR) (.ref qmv) (.ref qmk) (.ref qma) (.ref qmt) (.int (nI kZ)) qmr tA qmB qmO qmK iEn iTk (ov uP) (ov uU) (.int (nI kAt)) (.int iTo) (.int iFr) (.long JFi) (.int iFa) (.ref qm3) (.int iSt) iLv iWs vLa (.ref qmu) (.ref qmy) (.ref qmb) (.ref qms) (.int iOm) fMr) L_X6_91 hN hP hD hS hA [0, 14] [false, true, true, true, true, true, true, true, true, true, true, true, true, true, false] rfl (by decide +kernel) rfl 0 5 rfl rfl rfl ⟨Nat.le_of_ble_eq_true rfl, Nat.le_of_ble_eq_true rfl⟩ hl.1 (Nat.le_of_ble_eq_true rfl) dX6_copy_184 ⟨Nat.le_of_ble_eq_true rfl, Nat.le_of_ble_eq_true rfl⟩ (fun r_206 u_208 H locs h_207 => ?_)
                            clear hP hD hS
                            intro hP hD hS
                            obtain ⟨fX_209, rfl, h_207⟩ := h_207
                            have hPD := pd_as [zzI cy qmh 8 fMh, zzI cy qmo 8 fMo, zzI cy qmz 8 fMz, zzG cy 4 qmR rR, zzJ cy (rR 0) 40 (eR 0), zzJ cy (rR 1) 40 (eR 1), zzJ cy (rR 2) 40 (eR 2), zzJ cy (rR 3) 40 (eR 3), zzJ cy (rR 4) 40 (eR 4), zzJ cy (rR 5) 40 (eR 5), zzJ cy (rR 6) 40 (eR 6), zzJ cy (rR 7) 40 (eR 7), zzJ cy qmv 40 gMv, zzO qm 5 [.ref qmh, .ref qmo, .ref qmz, .ref qmR, .ref qmv, .ref qmk, .ref qma, .ref qmt, .int (nI kZ), .ref qmr, .int (nI (T_nb tA)), .ref qmB, .int (nI (T_np tA)), .ref qmO, .ref qmK, .int iEn, .int iTk, .int (T_sd tA), ov uP, ov uU, .int (nI kAt), .int iTo, .int iFr, .long JFi, .int iFa, .ref qm3, .int iSt, .int iLv, .int iWs, vLa, .ref qmu, .ref qmy, .ref qmb, .ref qms, .int iOm], zzI cy qmr 8 fX_209] hP hD rfl
                            clear hP hD
                            obtain ⟨hP, hD⟩ := hPD
                            subst h_207
                            exact endW (u := [zzO qm 5 [.ref qmh, .ref qmo, .ref qmz, .ref qmR, .ref qmv, .ref qmk, .ref qma, .ref qmt, .int (nI kZ), .ref qmr, .int (nI (T_nb tA)), .ref qmB, .int (nI (T_np tA)), .ref qmO, .ref qmK, .int iEn, .int iTk, .int (T_sd tA), ov uP, ov uU, .int (nI kAt), .int iTo, .int iFr, .long JFi, .int iFa, .ref qm3, .int iSt, .int iLv, .int iWs, vLa, .ref qmu, .ref qmy, .ref qmb, .ref qms, .int iOm], zzI cy qmh 8 fMh, zzI cy qmo 8 fMo, zzI cy qmz 8 fMz, zzG cy 4 qmR rR, zzJ cy (rR 0) 40 (eR 0), zzJ cy (rR 1) 40 (eR 1), zzJ cy (rR 2) 40 (eR 2), zzJ cy (rR 3) 40 (eR 3), zzJ cy (rR 4) 40 (eR 4), zzJ cy (rR 5) 40 (eR 5), zzJ cy (rR 6) 40 (eR 6), zzJ cy (rR 7) 40 (eR 7), zzJ cy qmv 40 gMv, zzI cy qmr 8 fX_209]) hx hb hr hlocks rfl (hP.sub [13, 0, 1, 2, 3, 4, 5, 6, 7, 8, 9, 10, 11, 12, 14] rfl) (hD.sub [13, 0, 1, 2, 3, 4, 5, 6, 7, 8, 9, 10, 11, 12, 14] (by decide +kernel) rfl) hS ⟨eR, gMv, fX_209, rfl, Or.inl ⟨rfl, Or.inr ⟨k_4, k_11, by omega, by omega, rfl, rfl, c_15, c_20, c_184, c_189, (fun h1 h2 => c_183), (fun q => q.2.2.2.1 c_205)⟩, rfl⟩, trivial⟩ dX6_copy_187
                          · refine lv_iload hx hb dX6_copy_143 (lv_at hl 5 rfl) ?_
                            refine lv_aload_n hx hb dX6_copy_145 rfl (lv_at hl 0 rfl) ?_
                            refine va_get (D := G) (ci := 5) (v := .ref qmz) (C := RX6) (T := TX6) (N := 35) hx hb hts iX_X6 hown hK hP 0 rfl rfl 2 (by decide) (hts _ m_t852) (fun _ h9 => h9) rfl dX6_copy_146 ?_
                            refine lv_iload_n hx hb dX6_copy_149 rfl (lv_at hl 2 rfl) ?_
                            refine va_iald hx hb hK hP 3 0 rfl rfl (in_shelf h_10) dX6_copy_150 ?_
                            refine lv_seti (v := fMz k_11) (congrArg fMz (cl8 (by omega))) ?_
                            refine lv_icmp_gt (tgt := 181) hx hb dX6_copy_151 (by decide) (fun c_210 => ?_) (fun c_210 => ?_)
                            · refine lv_aload_n hx hb dX6_copy_181 rfl (lv_at hl 0 rfl) ?_
                              refine lv_bipush (v := (-2)) hx hb dX6_copy_182 (by decide) ?_
                              refine cVi (As := [.int (-2)]) (rest := []) (b := qm) (q := (RX6, TX6, 35)) ⟨hx, hb, hml, hown, hts⟩ (c_X6_refuse2 l G cy (s.heap).size qm (.ref qmh) (.ref qmo) (.ref qmz) (.ref qmR) (.ref qmv) (.ref qmk) (.ref qma) (.ref qmt) (.int (nI kZ)) qmr tA qmB qmO qmK iEn iTk (ov uP) (ov uU) (.int (nI kAt)) (.int iTo) (.int iFr) (.long JFi) (.int iFa) (.ref qm3) (.int iSt) iLv iWs vLa (.ref qmu) (.ref qmy) (.ref qmb) (.ref qms) (.int iOm) fMr) L_X6_91 hN hP hD hS hA [0, 14] [false, true, true, true, true, true, true, true, true, true, true, true, true, true, false] rfl (by decide +kernel) rfl 0 5 rfl rfl rfl ⟨Nat.le_of_ble_eq_true rfl, Nat.le_of_ble_eq_true rfl⟩ hl.1 (Nat.le_of_ble_eq_true rfl) dX6_copy_184 ⟨Nat.le_of_ble_eq_true rfl, Nat.le_of_ble_eq_true rfl⟩ (fun r_211 u_213 H locs h_212 => ?_)
                              clear hP hD hS
                              intro hP hD hS
                              obtain ⟨fX_214, rfl, h_212⟩ := h_212
                              have hPD := pd_as [zzI cy qmh 8 fMh, zzI cy qmo 8 fMo, zzI cy qmz 8 fMz, zzG cy 4 qmR rR, zzJ cy (rR 0) 40 (eR 0), zzJ cy (rR 1) 40 (eR 1), zzJ cy (rR 2) 40 (eR 2), zzJ cy (rR 3) 40 (eR 3), zzJ cy (rR 4) 40 (eR 4), zzJ cy (rR 5) 40 (eR 5), zzJ cy (rR 6) 40 (eR 6), zzJ cy (rR 7) 40 (eR 7), zzJ cy qmv 40 gMv, zzO qm 5 [.ref qmh, .ref qmo, .ref qmz, .ref qmR, .ref qmv, .ref qmk, .ref qma, .ref qmt, .int (nI kZ), .ref qmr, .int (nI (T_nb tA)), .ref qmB, .int (nI (T_np tA)), .ref qmO, .ref qmK, .int iEn, .int iTk, .int (T_sd tA), ov uP, ov uU, .int (nI kAt), .int iTo, .int iFr, .long JFi, .int iFa, .ref qm3, .int iSt, .int iLv, .int iWs, vLa, .ref qmu, .ref qmy, .ref qmb, .ref qms, .int iOm], zzI cy qmr 8 fX_214] hP hD rfl
                              clear hP hD
                              obtain ⟨hP, hD⟩ := hPD
                              subst h_212
                              exact endW (u := [zzO qm 5 [.ref qmh, .ref qmo, .ref qmz, .ref qmR, .ref qmv, .ref qmk, .ref qma, .ref qmt, .int (nI kZ), .ref qmr, .int (nI (T_nb tA)), .ref qmB, .int (nI (T_np tA)), .ref qmO, .ref qmK, .int iEn, .int iTk, .int (T_sd tA), ov uP, ov uU, .int (nI kAt), .int iTo, .int iFr, .long JFi, .int iFa, .ref qm3, .int iSt, .int iLv, .int iWs, vLa, .ref qmu, .ref qmy, .ref qmb, .ref qms, .int iOm], zzI cy qmh 8 fMh, zzI cy qmo 8 fMo, zzI cy qmz 8 fMz, zzG cy 4 qmR rR, zzJ cy (rR 0) 40 (eR 0), zzJ cy (rR 1) 40 (eR 1), zzJ cy (rR 2) 40 (eR 2), zzJ cy (rR 3) 40 (eR 3), zzJ cy (rR 4) 40 (eR 4), zzJ cy (rR 5) 40 (eR 5), zzJ cy (rR 6) 40 (eR 6), zzJ cy (rR 7) 40 (eR 7), zzJ cy qmv 40 gMv, zzI cy qmr 8 fX_214]) hx hb hr hlocks rfl (hP.sub [13, 0, 1, 2, 3, 4, 5, 6, 7, 8, 9, 10, 11, 12, 14] rfl) (hD.sub [13, 0, 1, 2, 3, 4, 5, 6, 7, 8, 9, 10, 11, 12, 14] (by decide +kernel) rfl) hS ⟨eR, gMv, fX_214, rfl, Or.inl ⟨rfl, Or.inr ⟨k_4, k_11, by omega, by omega, rfl, rfl, c_15, c_20, c_184, c_189, (fun h1 h2 => c_183), (fun q => q.2.2.2.2.1 c_210)⟩, rfl⟩, trivial⟩ dX6_copy_187
                            · refine lv_iload_n hx hb dX6_copy_154 rfl (lv_at hl 3 rfl) ?_
                              refine lv_aload_n hx hb dX6_copy_155 rfl (lv_at hl 0 rfl) ?_
                              refine va_get (D := G) (ci := 5) (v := .ref qmz) (C := RX6) (T := TX6) (N := 35) hx hb hts iX_X6 hown hK hP 0 rfl rfl 2 (by decide) (hts _ m_t852) (fun _ h9 => h9) rfl dX6_copy_156 ?_
                              refine lv_iload_n hx hb dX6_copy_159 rfl (lv_at hl 1 rfl) ?_
                              refine va_iald hx hb hK hP 3 0 rfl rfl (in_shelf h_3) dX6_copy_160 ?_
                              refine lv_seti (v := fMz k_4) (congrArg fMz (cl8 (by omega))) ?_
                              refine lv_iload hx hb dX6_copy_161 (lv_at hl 5 rfl) ?_
                              refine lv_isub hx hb dX6_copy_163 ?_
                              refine lv_icmp_gt (tgt := 181) hx hb dX6_copy_164 (by decide) (fun c_215 => ?_) (fun c_215 => ?_)
                              · refine lv_aload_n hx hb dX6_copy_181 rfl (lv_at hl 0 rfl) ?_
                                refine lv_bipush (v := (-2)) hx hb dX6_copy_182 (by decide) ?_
                                refine cVi (As := [.int (-2)]) (rest := []) (b := qm) (q := (RX6, TX6, 35)) ⟨hx, hb, hml, hown, hts⟩ (c_X6_refuse2 l G cy (s.heap).size qm (.ref qmh) (.ref qmo) (.ref qmz) (.ref qmR) (.ref qmv) (.ref qmk) (.ref qma) (.ref qmt) (.int (nI kZ)) qmr tA qmB qmO qmK iEn iTk (ov uP) (ov uU) (.int (nI kAt)) (.int iTo) (.int iFr) (.long JFi) (.int iFa) (.ref qm3) (.int iSt) iLv iWs vLa (.ref qmu) (.ref qmy) (.ref qmb) (.ref qms) (.int iOm) fMr) L_X6_91 hN hP hD hS hA [0, 14] [false, true, true, true, true, true, true, true, true, true, true, true, true, true, false] rfl (by decide +kernel) rfl 0 5 rfl rfl rfl ⟨Nat.le_of_ble_eq_true rfl, Nat.le_of_ble_eq_true rfl⟩ hl.1 (Nat.le_of_ble_eq_true rfl) dX6_copy_184 ⟨Nat.le_of_ble_eq_true rfl, Nat.le_of_ble_eq_true rfl⟩ (fun r_216 u_218 H locs h_217 => ?_)
                                clear hP hD hS
                                intro hP hD hS
                                obtain ⟨fX_219, rfl, h_217⟩ := h_217
                                have hPD := pd_as [zzI cy qmh 8 fMh, zzI cy qmo 8 fMo, zzI cy qmz 8 fMz, zzG cy 4 qmR rR, zzJ cy (rR 0) 40 (eR 0), zzJ cy (rR 1) 40 (eR 1), zzJ cy (rR 2) 40 (eR 2), zzJ cy (rR 3) 40 (eR 3), zzJ cy (rR 4) 40 (eR 4), zzJ cy (rR 5) 40 (eR 5), zzJ cy (rR 6) 40 (eR 6), zzJ cy (rR 7) 40 (eR 7), zzJ cy qmv 40 gMv, zzO qm 5 [.ref qmh, .ref qmo, .ref qmz, .ref qmR, .ref qmv, .ref qmk, .ref qma, .ref qmt, .int (nI kZ), .ref qmr, .int (nI (T_nb tA)), .ref qmB, .int (nI (T_np tA)), .ref qmO, .ref qmK, .int iEn, .int iTk, .int (T_sd tA), ov uP, ov uU, .int (nI kAt), .int iTo, .int iFr, .long JFi, .int iFa, .ref qm3, .int iSt, .int iLv, .int iWs, vLa, .ref qmu, .ref qmy, .ref qmb, .ref qms, .int iOm], zzI cy qmr 8 fX_219] hP hD rfl
                                clear hP hD
                                obtain ⟨hP, hD⟩ := hPD
                                subst h_217
                                exact endW (u := [zzO qm 5 [.ref qmh, .ref qmo, .ref qmz, .ref qmR, .ref qmv, .ref qmk, .ref qma, .ref qmt, .int (nI kZ), .ref qmr, .int (nI (T_nb tA)), .ref qmB, .int (nI (T_np tA)), .ref qmO, .ref qmK, .int iEn, .int iTk, .int (T_sd tA), ov uP, ov uU, .int (nI kAt), .int iTo, .int iFr, .long JFi, .int iFa, .ref qm3, .int iSt, .int iLv, .int iWs, vLa, .ref qmu, .ref qmy, .ref qmb, .ref qms, .int iOm], zzI cy qmh 8 fMh, zzI cy qmo 8 fMo, zzI cy qmz 8 fMz, zzG cy 4 qmR rR, zzJ cy (rR 0) 40 (eR 0), zzJ cy (rR 1) 40 (eR 1), zzJ cy (rR 2) 40 (eR 2), zzJ cy (rR 3) 40 (eR 3), zzJ cy (rR 4) 40 (eR 4), zzJ cy (rR 5) 40 (eR 5), zzJ cy (rR 6) 40 (eR 6), zzJ cy (rR 7) 40 (eR 7), zzJ cy qmv 40 gMv, zzI cy qmr 8 fX_219]) hx hb hr hlocks rfl (hP.sub [13, 0, 1, 2, 3, 4, 5, 6, 7, 8, 9, 10, 11, 12, 14] rfl) (hD.sub [13, 0, 1, 2, 3, 4, 5, 6, 7, 8, 9, 10, 11, 12, 14] (by decide +kernel) rfl) hS ⟨eR, gMv, fX_219, rfl, Or.inl ⟨rfl, Or.inr ⟨k_4, k_11, by omega, by omega, rfl, rfl, c_15, c_20, c_184, c_189, (fun h1 h2 => c_183), (fun q => q.2.2.2.2.2.1 c_215)⟩, rfl⟩, trivial⟩ dX6_copy_187
                              · refine lv_iload hx hb dX6_copy_167 (lv_at hl 4 rfl) ?_
                                refine lv_aload_n hx hb dX6_copy_169 rfl (lv_at hl 0 rfl) ?_
                                refine va_get (D := G) (ci := 5) (v := .ref qmz) (C := RX6) (T := TX6) (N := 35) hx hb hts iX_X6 hown hK hP 0 rfl rfl 2 (by decide) (hts _ m_t852) (fun _ h9 => h9) rfl dX6_copy_170 ?_
                                refine lv_iload_n hx hb dX6_copy_173 rfl (lv_at hl 2 rfl) ?_
                                refine va_iald hx hb hK hP 3 0 rfl rfl (in_shelf h_10) dX6_copy_174 ?_
                                refine lv_seti (v := fMz k_11) (congrArg fMz (cl8 (by omega))) ?_
                                refine lv_iload hx hb dX6_copy_175 (lv_at hl 5 rfl) ?_
                                refine lv_isub hx hb dX6_copy_177 ?_
                                refine lv_icmp_le (tgt := 188) hx hb dX6_copy_178 (by decide) (fun c_220 => ?_) (fun c_220 => ?_)
                                · obtain ⟨n_221, hn_222, en_223⟩ := hSz k_4 (by omega)
                                  obtain ⟨n_224, hn_225, en_226⟩ := hSz k_11 (by omega)
                                  obtain ⟨k_227, k_228, k_229, hk_230, hk_231, rfl, rfl, rfl⟩ := cp_of en_223 hn_222 en_226 hn_225 c_190 c_195 c_200 c_205 c_210 c_215 c_220
                                  refine lv_iconst (v := 0) hx hb dX6_copy_188 (by decide) ?_
                                  refine lv_istore (lv' := [(6, .int 0), (0, .ref qm), (1, .int (nI k_4)), (2, .int (nI k_11)), (3, .int (nI k_227)), (4, .int (nI k_229)), (5, .int (nI k_228))]) hx hb dX6_copy_189 hl (by decide) rfl (fun ls => ?_)
                                  clear hl
                                  intro hl
                                  have lp_232 : ∀ (n_233 : Nat) (m_235 : Nat) (gJ_236 : Nat → Int64), 40 - m_235 < n_233 → m_235 ≤ k_228 → (∀ x, x < m_235 → gJ_236 x = eR k_4 (k_227 + x)) → ∀ (H : Heap) (locs : List Loc) (ls : Array Slot), va_P G CL [zzO qm 5 [.ref qmh, .ref qmo, .ref qmz, .ref qmR, .ref qmv, .ref qmk, .ref qma, .ref qmt, .int (nI kZ), .ref qmr, .int (nI (T_nb tA)), .ref qmB, .int (nI (T_np tA)), .ref qmO, .ref qmK, .int iEn, .int iTk, .int (T_sd tA), ov uP, ov uU, .int (nI kAt), .int iTo, .int iFr, .long JFi, .int iFa, .ref qm3, .int iSt, .int iLv, .int iWs, vLa, .ref qmu, .ref qmy, .ref qmb, .ref qms, .int iOm], zzI cy qmh 8 fMh, zzI cy qmo 8 fMo, zzI cy qmz 8 fMz, zzG cy 4 qmR rR, zzJ cy (rR 0) 40 (eR 0), zzJ cy (rR 1) 40 (eR 1), zzJ cy (rR 2) 40 (eR 2), zzJ cy (rR 3) 40 (eR 3), zzJ cy (rR 4) 40 (eR 4), zzJ cy (rR 5) 40 (eR 5), zzJ cy (rR 6) 40 (eR 6), zzJ cy (rR 7) 40 (eR 7), zzJ cy qmv 40 gJ_236, zzI cy qmr 8 fMr] H → va_D A [zzO qm 5 [.ref qmh, .ref qmo, .ref qmz, .ref qmR, .ref qmv, .ref qmk, .ref qma, .ref qmt, .int (nI kZ), .ref qmr, .int (nI (T_nb tA)), .ref qmB, .int (nI (T_np tA)), .ref qmO, .ref qmK, .int iEn, .int iTk, .int (T_sd tA), ov uP, ov uU, .int (nI kAt), .int iTo, .int iFr, .long JFi, .int iFa, .ref qm3, .int iSt, .int iLv, .int iWs, vLa, .ref qmu, .ref qmy, .ref qmb, .ref qms, .int iOm], zzI cy qmh 8 fMh, zzI cy qmo 8 fMo, zzI cy qmz 8 fMz, zzG cy 4 qmR rR, zzJ cy (rR 0) 40 (eR 0), zzJ cy (rR 1) 40 (eR 1), zzJ cy (rR 2) 40 (eR 2), zzJ cy (rR 3) 40 (eR 3), zzJ cy (rR 4) 40 (eR 4), zzJ cy (rR 5) 40 (eR 5), zzJ cy (rR 6) 40 (eR 6), zzJ cy (rR 7) 40 (eR 7), zzJ cy qmv 40 gJ_236, zzI cy qmr 8 fMr] → va_S A s.heap H locs → lv_has ls 7 [(6, .int (nI m_235)), (0, .ref qm), (1, .int (nI k_4)), (2, .int (nI k_11)), (3, .int (nI k_227)), (4, .int (nI k_229)), (5, .int (nI k_228))] → W p l e (Rm 16 0 0) s m (List.toArray (α := Value) [.ref qm, .int (nI k_4), .int (nI k_11), .int (nI k_227), .int (nI k_229), .int (nI k_228)]) below meth c H locs 0 0 (MQ below ((Wi G (fun r u => ∃ (eN : Nat → Nat → Int64) (gNv : Nat → Int64) (fNr : Nat → Int32), u = [zzO qm 5 [.ref qmh, .ref qmo, .ref qmz, .ref qmR, .ref qmv, .ref qmk, .ref qma, .ref qmt, .int (nI kZ), .ref qmr, .int (nI (T_nb tA)), .ref qmB, .int (nI (T_np tA)), .ref qmO, .ref qmK, .int iEn, .int iTk, .int (T_sd tA), ov uP, ov uU, .int (nI kAt), .int iTo, .int iFr, .long JFi, .int iFa, .ref qm3, .int iSt, .int iLv, .int iWs, vLa, .ref qmu, .ref qmy, .ref qmb, .ref qms, .int iOm], zzI cy qmh 8 fMh, zzI cy qmo 8 fMo, zzI cy qmz 8 fMz, zzG cy 4 qmR rR, zzJ cy (rR 0) 40 (eN 0), zzJ cy (rR 1) 40 (eN 1), zzJ cy (rR 2) 40 (eN 2), zzJ cy (rR 3) 40 (eN 3), zzJ cy (rR 4) 40 (eN 4), zzJ cy (rR 5) 40 (eN 5), zzJ cy (rR 6) 40 (eN 6), zzJ cy (rR 7) 40 (eN 7), zzJ cy qmv 40 gNv, zzI cy qmr 8 fNr] ∧ (PMcopy fMh fMo fMz eR (nI k_4) (nI k_11) (nI k_227) (nI k_229) (nI k_228) r eN) ∧ (True))) A) (List.toArray (α := Value) [.ref qm, .int (nI k_4), .int (nI k_11), .int (nI k_227), .int (nI k_229), .int (nI k_228)]) s 0 0 A) (F0 m 191 ls []) := by
                                    intro n_233
                                    induction n_233 with
                                    | zero => intro m_235 gJ_236 hm9; exact absurd hm9 (Nat.not_lt_zero _)
                                    | succ n_233 ih_234 =>
                                      intro m_235 gJ_236 hm_239 hm_239 hg_238 H locs ls hP hD hS hl
                                      refine lv_iload hx hb dX6_copy_191 (lv_at hl 0 rfl) ?_
                                      refine lv_iload hx hb dX6_copy_193 (lv_at hl 6 rfl) ?_
                                      refine lv_icmp_ge (tgt := 222) hx hb dX6_copy_195 (by decide) (fun c_240 => ?_) (fun c_240 => ?_)
                                      · have hlt_241 : m_235 = k_228 := Nat.le_antisymm (by omega) (lp_ge rfl rfl (by omega) (by omega) c_240)
                                        refine lv_iconst (v := 0) hx hb dX6_copy_222 (by decide) ?_
                                        refine lv_istore (lv' := [(6, .int 0), (0, .ref qm), (1, .int (nI k_4)), (2, .int (nI k_11)), (3, .int (nI k_227)), (4, .int (nI k_229)), (5, .int (nI k_228))]) hx hb dX6_copy_223 hl (by decide) rfl (fun ls => ?_)
                                        clear hl
                                        intro hl
                                        have lp_242 : ∀ (n_243 : Nat) (n_245 : Nat) (eJ_246 : Nat → Nat → Int64), 40 - n_245 < n_243 → n_245 ≤ k_228 → (∀ s x, eJ_246 s x = if s = k_11 ∧ k_229 ≤ x ∧ x < k_229 + n_245 then eR k_4 (k_227 + (x - k_229)) else eR s x) → ∀ (H : Heap) (locs : List Loc) (ls : Array Slot), va_P G CL [zzO qm 5 [.ref qmh, .ref qmo, .ref qmz, .ref qmR, .ref qmv, .ref qmk, .ref qma, .ref qmt, .int (nI kZ), .ref qmr, .int (nI (T_nb tA)), .ref qmB, .int (nI (T_np tA)), .ref qmO, .ref qmK, .int iEn, .int iTk, .int (T_sd tA), ov uP, ov uU, .int (nI kAt), .int iTo, .int iFr, .long JFi, .int iFa, .ref qm3, .int iSt, .int iLv, .int iWs, vLa, .ref qmu, .ref qmy, .ref qmb, .ref qms, .int iOm], zzI cy qmh 8 fMh, zzI cy qmo 8 fMo, zzI cy qmz 8 fMz, zzG cy 4 qmR rR, zzJ cy (rR 0) 40 (eJ_246 0), zzJ cy (rR 1) 40 (eJ_246 1), zzJ cy (rR 2) 40 (eJ_246 2), zzJ cy (rR 3) 40 (eJ_246 3), zzJ cy (rR 4) 40 (eJ_246 4), zzJ cy (rR 5) 40 (eJ_246 5), zzJ cy (rR 6) 40 (eJ_246 6), zzJ cy (rR 7) 40 (eJ_246 7), zzJ cy qmv 40 gJ_236, zzI cy qmr 8 fMr] H → va_D A [zzO qm 5 [.ref qmh, .ref qmo, .ref qmz, .ref qmR, .ref qmv, .ref qmk, .ref qma, .ref qmt, .int (nI kZ), .ref qmr, .int (nI (T_nb tA)), .ref qmB, .int (nI (T_np tA)), .ref qmO, .ref qmK, .int iEn, .int iTk, .int (T_sd tA), ov uP, ov uU, .int (nI kAt), .int iTo, .int iFr, .long JFi, .int iFa, .ref qm3, .int iSt, .int iLv, .int iWs, vLa, .ref qmu, .ref qmy, .ref qmb, .ref qms, .int iOm], zzI cy qmh 8 fMh, zzI cy qmo 8 fMo, zzI cy qmz 8 fMz, zzG cy 4 qmR rR, zzJ cy (rR 0) 40 (eJ_246 0), zzJ cy (rR 1) 40 (eJ_246 1), zzJ cy (rR 2) 40 (eJ_246 2), zzJ cy (rR 3) 40 (eJ_246 3), zzJ cy (rR 4) 40 (eJ_246 4), zzJ cy (rR 5) 40 (eJ_246 5), zzJ cy (rR 6) 40 (eJ_246 6), zzJ cy (rR 7) 40 (eJ_246 7), zzJ cy qmv 40 gJ_236, zzI cy qmr 8 fMr] → va_S A s.heap H locs → lv_has ls 7 [(6, .int (nI n_245)), (0, .ref qm), (1, .int (nI k_4)), (2, .int (nI k_11)), (3, .int (nI k_227)), (4, .int (nI k_229)), (5, .int (nI k_228))] → W p l e (Rm 16 0 0) s m (List.toArray (α := Value) [.ref qm, .int (nI k_4), .int (nI k_11), .int (nI k_227), .int (nI k_229), .int (nI k_228)]) below meth c H locs 0 0 (MQ below ((Wi G (fun r u => ∃ (eN : Nat → Nat → Int64) (gNv : Nat → Int64) (fNr : Nat → Int32), u = [zzO qm 5 [.ref qmh, .ref qmo, .ref qmz, .ref qmR, .ref qmv, .ref qmk, .ref qma, .ref qmt, .int (nI kZ), .ref qmr, .int (nI (T_nb tA)), .ref qmB, .int (nI (T_np tA)), .ref qmO, .ref qmK, .int iEn, .int iTk, .int (T_sd tA), ov uP, ov uU, .int (nI kAt), .int iTo, .int iFr, .long JFi, .int iFa, .ref qm3, .int iSt, .int iLv, .int iWs, vLa, .ref qmu, .ref qmy, .ref qmb, .ref qms, .int iOm], zzI cy qmh 8 fMh, zzI cy qmo 8 fMo, zzI cy qmz 8 fMz, zzG cy 4 qmR rR, zzJ cy (rR 0) 40 (eN 0), zzJ cy (rR 1) 40 (eN 1), zzJ cy (rR 2) 40 (eN 2), zzJ cy (rR 3) 40 (eN 3), zzJ cy (rR 4) 40 (eN 4), zzJ cy (rR 5) 40 (eN 5), zzJ cy (rR 6) 40 (eN 6), zzJ cy (rR 7) 40 (eN 7), zzJ cy qmv 40 gNv, zzI cy qmr 8 fNr] ∧ (PMcopy fMh fMo fMz eR (nI k_4) (nI k_11) (nI k_227) (nI k_229) (nI k_228) r eN) ∧ (True))) A) (List.toArray (α := Value) [.ref qm, .int (nI k_4), .int (nI k_11), .int (nI k_227), .int (nI k_229), .int (nI k_228)]) s 0 0 A) (F0 m 225 ls []) := by
                                          intro n_243
                                          induction n_243 with
                                          | zero => intro n_245 eJ_246 hm9; exact absurd hm9 (Nat.not_lt_zero _)
                                          | succ n_243 ih_244 =>
                                            intro n_245 eJ_246 hm_249 hn_247 he_248 H locs ls hP hD hS hl
                                            refine lv_iload hx hb dX6_copy_225 (lv_at hl 0 rfl) ?_
                                            refine lv_iload hx hb dX6_copy_227 (lv_at hl 6 rfl) ?_
                                            refine lv_icmp_ge (tgt := 257) hx hb dX6_copy_229 (by decide) (fun c_250 => ?_) (fun c_250 => ?_)
                                            · have hlt_251 : n_245 = k_228 := Nat.le_antisymm (by omega) (lp_ge rfl rfl (by omega) (by omega) c_250)
                                              refine lv_iload hx hb dX6_copy_257 (lv_at hl 6 rfl) ?_
                                              exact endW (u := [zzO qm 5 [.ref qmh, .ref qmo, .ref qmz, .ref qmR, .ref qmv, .ref qmk, .ref qma, .ref qmt, .int (nI kZ), .ref qmr, .int (nI (T_nb tA)), .ref qmB, .int (nI (T_np tA)), .ref qmO, .ref qmK, .int iEn, .int iTk, .int (T_sd tA), ov uP, ov uU, .int (nI kAt), .int iTo, .int iFr, .long JFi, .int iFa, .ref qm3, .int iSt, .int iLv, .int iWs, vLa, .ref qmu, .ref qmy, .ref qmb, .ref qms, .int iOm], zzI cy qmh 8 fMh, zzI cy qmo 8 fMo, zzI cy qmz 8 fMz, zzG cy 4 qmR rR, zzJ cy (rR 0) 40 (eJ_246 0), zzJ cy (rR 1) 40 (eJ_246 1), zzJ cy (rR 2) 40 (eJ_246 2), zzJ cy (rR 3) 40 (eJ_246 3), zzJ cy (rR 4) 40 (eJ_246 4), zzJ cy (rR 5) 40 (eJ_246 5), zzJ cy (rR 6) 40 (eJ_246 6), zzJ cy (rR 7) 40 (eJ_246 7), zzJ cy qmv 40 gJ_236, zzI cy qmr 8 fMr]) hx hb hr hlocks rfl (hP.sub [0, 1, 2, 3, 4, 5, 6, 7, 8, 9, 10, 11, 12, 13, 14] rfl) (hD.sub [0, 1, 2, 3, 4, 5, 6, 7, 8, 9, 10, 11, 12, 13, 14] (by decide +kernel) rfl) hS ⟨eJ_246, gJ_236, fMr, rfl, Or.inr (Or.inr (Or.inr ⟨rfl, k_4, k_11, k_227, k_229, k_228, by omega, by omega, rfl, rfl, c_15, c_20, c_184, c_189, (fun h1 h2 => c_183), rfl, rfl, rfl, by omega, by omega, ⟨c_190, c_195, c_200, c_205, c_210, c_215, c_220⟩, by have := he_248; rw [hlt_251] at this; exact this⟩)), trivial⟩ dX6_copy_259
                                            · have hlt_252 : n_245 < k_228 := lp_lt rfl rfl (by omega) (by omega) c_250
                                              refine lv_aload_n hx hb dX6_copy_232 rfl (lv_at hl 1 rfl) ?_
                                              refine va_get (D := G) (ci := 5) (v := .ref qmR) (C := RX6) (T := TX6) (N := 35) hx hb hts iX_X6 hown hK hP 0 rfl rfl 3 (by decide) (hts _ m_t853) (fun _ h9 => h9) rfl dX6_copy_233 ?_
                                              refine lv_iload_n hx hb dX6_copy_236 rfl (lv_at hl 3 rfl) ?_
                                              refine va_alda hx hb hK hP 4 4 rfl rfl (in_shelf h_10) dX6_copy_237 ?_
                                              refine lv_setv (v := .ref (rR k_11)) (g_ref (by omega)) ?_
                                              refine lv_iload hx hb dX6_copy_238 (lv_at hl 5 rfl) ?_
                                              refine lv_iload hx hb dX6_copy_240 (lv_at hl 0 rfl) ?_
                                              refine lv_iadd hx hb dX6_copy_242 ?_
                                              refine lv_seti (v := nI (k_229 + n_245)) (nI_add _ _) ?_
                                              refine lv_aload_n hx hb dX6_copy_243 rfl (lv_at hl 1 rfl) ?_
                                              refine va_get (D := G) (ci := 5) (v := .ref qmv) (C := RX6) (T := TX6) (N := 35) hx hb hts iX_X6 hown hK hP 0 rfl rfl 4 (by decide) (hts _ m_t854) (fun _ h9 => h9) rfl dX6_copy_244 ?_
                                              refine lv_iload hx hb dX6_copy_247 (lv_at hl 0 rfl) ?_
                                              refine va_lald hx hb hK hP 13 1 rfl rfl (vp_in_nI (by omega) (by omega)) dX6_copy_249 ?_
                                              refine lv_setl (v := gJ_236 n_245) (congrArg gJ_236 (nI_clamp (by omega))) ?_
                                              refine va_last hx hb hK hP hD hS (5 + k_11) 1 ((sg8 (n0 := 5) (f := (fun j => zzJ cy (rR j) 40 (eJ_246 j))) rfl rfl rfl rfl rfl rfl rfl rfl) k_11 (by omega)) rfl (vp_in_nI (by omega) (by omega)) dX6_copy_250 (fun H locs => ?_)
                                              clear hP hD hS
                                              intro hP hD hS
                                              rw [nI_clamp (n := (k_229 + n_245)) (by omega)] at hP hD
                                              have e8 := set8 (k := k_11) (ws := [zzO qm 5 [.ref qmh, .ref qmo, .ref qmz, .ref qmR, .ref qmv, .ref qmk, .ref qma, .ref qmt, .int (nI kZ), .ref qmr, .int (nI (T_nb tA)), .ref qmB, .int (nI (T_np tA)), .ref qmO, .ref qmK, .int iEn, .int iTk, .int (T_sd tA), ov uP, ov uU, .int (nI kAt), .int iTo, .int iFr, .long JFi, .int iFa, .ref qm3, .int iSt, .int iLv, .int iWs, vLa, .ref qmu, .ref qmy, .ref qmb, .ref qms, .int iOm], zzI cy qmh 8 fMh, zzI cy qmo 8 fMo, zzI cy qmz 8 fMz, zzG cy 4 qmR rR, zzJ cy (rR 0) 40 (eJ_246 0), zzJ cy (rR 1) 40 (eJ_246 1), zzJ cy (rR 2) 40 (eJ_246 2), zzJ cy (rR 3) 40 (eJ_246 3), zzJ cy (rR 4) 40 (eJ_246 4), zzJ cy (rR 5) 40 (eJ_246 5), zzJ cy (rR 6) 40 (eJ_246 6), zzJ cy (rR 7) 40 (eJ_246 7), zzJ cy qmv 40 gJ_236, zzI cy qmr 8 fMr]) (ws' := [zzO qm 5 [.ref qmh, .ref qmo, .ref qmz, .ref qmR, .ref qmv, .ref qmk, .ref qma, .ref qmt, .int (nI kZ), .ref qmr, .int (nI (T_nb tA)), .ref qmB, .int (nI (T_np tA)), .ref qmO, .ref qmK, .int iEn, .int iTk, .int (T_sd tA), ov uP, ov uU, .int (nI kAt), .int iTo, .int iFr, .long JFi, .int iFa, .ref qm3, .int iSt, .int iLv, .int iWs, vLa, .ref qmu, .ref qmy, .ref qmb, .ref qms, .int iOm], zzI cy qmh 8 fMh, zzI cy qmo 8 fMo, zzI cy qmz 8 fMz, zzG cy 4 qmR rR, zzJ cy (rR 0) 40 (updN eJ_246 k_11 (k_229 + n_245) (gJ_236 n_245) 0), zzJ cy (rR 1) 40 (updN eJ_246 k_11 (k_229 + n_245) (gJ_236 n_245) 1), zzJ cy (rR 2) 40 (updN eJ_246 k_11 (k_229 + n_245) (gJ_236 n_245) 2), zzJ cy (rR 3) 40 (updN eJ_246 k_11 (k_229 + n_245) (gJ_236 n_245) 3), zzJ cy (rR 4) 40 (updN eJ_246 k_11 (k_229 + n_245) (gJ_236 n_245) 4), zzJ cy (rR 5) 40 (updN eJ_246 k_11 (k_229 + n_245) (gJ_236 n_245) 5), zzJ cy (rR 6) 40 (updN eJ_246 k_11 (k_229 + n_245) (gJ_236 n_245) 6), zzJ cy (rR 7) 40 (updN eJ_246 k_11 (k_229 + n_245) (gJ_236 n_245) 7), zzJ cy qmv 40 gJ_236, zzI cy qmr 8 fMr]) (sg8 (n0 := 5) (f := (fun j => zzJ cy (rR j) 40 (eJ_246 j))) rfl rfl rfl rfl rfl rfl rfl rfl) (sg8 (n0 := 5) (f := (fun j => zzJ cy (rR j) 40 (updN eJ_246 k_11 (k_229 + n_245) (gJ_236 n_245) j))) rfl rfl rfl rfl rfl rfl rfl rfl) rfl rfl (by omega) (congrArg (zzJ cy (rR k_11) 40) un_u) (fun j hj => congrArg (zzJ cy (rR j) 40) (un_n hj))
                                              rw [e8] at hP hD
                                              clear e8
                                              have hPD := pd_as [zzO qm 5 [.ref qmh, .ref qmo, .ref qmz, .ref qmR, .ref qmv, .ref qmk, .ref qma, .ref qmt, .int (nI kZ), .ref qmr, .int (nI (T_nb tA)), .ref qmB, .int (nI (T_np tA)), .ref qmO, .ref qmK, .int iEn, .int iTk, .int (T_sd tA), ov uP, ov uU, .int (nI kAt), .int iTo, .int iFr, .long JFi, .int iFa, .ref qm3, .int iSt, .int iLv, .int iWs, vLa, .ref qmu, .ref qmy, .ref qmb, .ref qms, .int iOm], zzI cy qmh 8 fMh, zzI cy qmo 8 fMo, zzI cy qmz 8 fMz, zzG cy 4 qmR rR, zzJ cy (rR 0) 40 (updN eJ_246 k_11 (k_229 + n_245) (gJ_236 n_245) 0), zzJ cy (rR 1) 40 (updN eJ_246 k_11 (k_229 + n_245) (gJ_236 n_245) 1), zzJ cy (rR 2) 40 (updN eJ_246 k_11 (k_229 + n_245) (gJ_236 n_245) 2), zzJ cy (rR 3) 40 (updN eJ_246 k_11 (k_229 + n_245) (gJ_236 n_245) 3), zzJ cy (rR 4) 40 (updN eJ_246 k_11 (k_229 + n_245) (gJ_236 n_245) 4), zzJ cy (rR 5) 40 (updN eJ_246 k_11 (k_229 + n_245) (gJ_236 n_245) 5), zzJ cy (rR 6) 40 (updN eJ_246 k_11 (k_229 + n_245) (gJ_236 n_245) 6), zzJ cy (rR 7) 40 (updN eJ_246 k_11 (k_229 + n_245) (gJ_236 n_245) 7), zzJ cy qmv 40 gJ_236, zzI cy qmr 8 fMr] hP hD rfl
                                              clear hP hD
                                              obtain ⟨hP, hD⟩ := hPD
                                              refine lv_iinc (v := nI (n_245 + 1)) (lv' := [(6, .int (nI (n_245 + 1))), (0, .ref qm), (1, .int (nI k_4)), (2, .int (nI k_11)), (3, .int (nI k_227)), (4, .int (nI k_229)), (5, .int (nI k_228))]) hx hb dX6_copy_251 hl (k := 0) rfl (nI_1 _) (by decide) rfl (fun ls => ?_)
                                              clear hl
                                              intro hl
                                              refine lv_goto (tgt := 225) hx hb dX6_copy_254 (by decide) ?_
                                              exact ih_244 (n_245 + 1) (updN eJ_246 k_11 (k_229 + n_245) (gJ_236 n_245)) (by omega) (by omega) (cp_stepN he_248 (hg_238 _ (by omega))) _ _ _ hP hD hS (lv_sub hl [0, 1, 2, 3, 4, 5, 6] rfl)
                                        exact lp_242 ((40 - 0) + 1) 0 eR (Nat.lt_succ_self _) (Nat.zero_le _) (fun s x => (if_neg (fun q => by omega)).symm) _ _ ls hP hD hS (lv_sub hl [0, 1, 2, 3, 4, 5, 6] rfl)
                                      · have hlt_253 : m_235 < k_228 := lp_lt rfl rfl (by omega) (by omega) c_240
                                        refine lv_aload_n hx hb dX6_copy_198 rfl (lv_at hl 1 rfl) ?_
                                        refine va_get (D := G) (ci := 5) (v := .ref qmv) (C := RX6) (T := TX6) (N := 35) hx hb hts iX_X6 hown hK hP 0 rfl rfl 4 (by decide) (hts _ m_t854) (fun _ h9 => h9) rfl dX6_copy_199 ?_
                                        refine lv_iload hx hb dX6_copy_202 (lv_at hl 0 rfl) ?_
                                        refine lv_aload_n hx hb dX6_copy_204 rfl (lv_at hl 1 rfl) ?_
                                        refine va_get (D := G) (ci := 5) (v := .ref qmR) (C := RX6) (T := TX6) (N := 35) hx hb hts iX_X6 hown hK hP 0 rfl rfl 3 (by decide) (hts _ m_t853) (fun _ h9 => h9) rfl dX6_copy_205 ?_
                                        refine lv_iload_n hx hb dX6_copy_208 rfl (lv_at hl 2 rfl) ?_
                                        refine va_alda hx hb hK hP 4 4 rfl rfl (in_shelf h_3) dX6_copy_209 ?_
                                        refine lv_setv (v := .ref (rR k_4)) (g_ref (by omega)) ?_
                                        refine lv_iload_n hx hb dX6_copy_210 rfl (lv_at hl 4 rfl) ?_
                                        refine lv_iload hx hb dX6_copy_211 (lv_at hl 0 rfl) ?_
                                        refine lv_iadd hx hb dX6_copy_213 ?_
                                        refine lv_seti (v := nI (k_227 + m_235)) (nI_add _ _) ?_
                                        refine va_lald hx hb hK hP (5 + k_4) 1 (sg8 (n0 := 5) (f := (fun j => zzJ cy (rR j) 40 (eR j))) rfl rfl rfl rfl rfl rfl rfl rfl k_4 (by omega)) rfl (vp_in_nI (by omega) (by omega)) dX6_copy_214 ?_
                                        refine lv_setl (v := eR k_4 (k_227 + m_235)) (congrArg (eR k_4) (nI_clamp (by omega))) ?_
                                        refine va_last hx hb hK hP hD hS 13 1 rfl rfl (vp_in_nI (by omega) (by omega)) dX6_copy_215 (fun H locs => ?_)
                                        clear hP hD hS
                                        intro hP hD hS
                                        rw [nI_clamp (n := m_235) (by omega)] at hP hD
                                        have hPD := pd_as [zzO qm 5 [.ref qmh, .ref qmo, .ref qmz, .ref qmR, .ref qmv, .ref qmk, .ref qma, .ref qmt, .int (nI kZ), .ref qmr, .int (nI (T_nb tA)), .ref qmB, .int (nI (T_np tA)), .ref qmO, .ref qmK, .int iEn, .int iTk, .int (T_sd tA), ov uP, ov uU, .int (nI kAt), .int iTo, .int iFr, .long JFi, .int iFa, .ref qm3, .int iSt, .int iLv, .int iWs, vLa, .ref qmu, .ref qmy, .ref qmb, .ref qms, .int iOm], zzI cy qmh 8 fMh, zzI cy qmo 8 fMo, zzI cy qmz 8 fMz, zzG cy 4 qmR rR, zzJ cy (rR 0) 40 (eR 0), zzJ cy (rR 1) 40 (eR 1), zzJ cy (rR 2) 40 (eR 2), zzJ cy (rR 3) 40 (eR 3), zzJ cy (rR 4) 40 (eR 4), zzJ cy (rR 5) 40 (eR 5), zzJ cy (rR 6) 40 (eR 6), zzJ cy (rR 7) 40 (eR 7), zzJ cy qmv 40 (vp_updL gJ_236 m_235 (eR k_4 (k_227 + m_235))), zzI cy qmr 8 fMr] hP hD rfl
                                        clear hP hD
                                        obtain ⟨hP, hD⟩ := hPD
                                        refine lv_iinc (v := nI (m_235 + 1)) (lv' := [(6, .int (nI (m_235 + 1))), (0, .ref qm), (1, .int (nI k_4)), (2, .int (nI k_11)), (3, .int (nI k_227)), (4, .int (nI k_229)), (5, .int (nI k_228))]) hx hb dX6_copy_216 hl (k := 0) rfl (nI_1 _) (by decide) rfl (fun ls => ?_)
                                        clear hl
                                        intro hl
                                        refine lv_goto (tgt := 191) hx hb dX6_copy_219 (by decide) ?_
                                        exact ih_234 (m_235 + 1) (vp_updL gJ_236 m_235 (eR k_4 (k_227 + m_235))) (by omega) (by omega) (cp_stepL hg_238) _ _ _ hP hD hS (lv_sub hl [0, 1, 2, 3, 4, 5, 6] rfl)
                                  exact lp_232 ((40 - 0) + 1) 0 gMv (Nat.lt_succ_self _) (Nat.zero_le _) (fun x h => absurd h (Nat.not_lt_zero _)) _ _ ls hP hD hS (lv_sub hl [0, 1, 2, 3, 4, 5, 6] rfl)
                                · refine lv_aload_n hx hb dX6_copy_181 rfl (lv_at hl 0 rfl) ?_
                                  refine lv_bipush (v := (-2)) hx hb dX6_copy_182 (by decide) ?_
                                  refine cVi (As := [.int (-2)]) (rest := []) (b := qm) (q := (RX6, TX6, 35)) ⟨hx, hb, hml, hown, hts⟩ (c_X6_refuse2 l G cy (s.heap).size qm (.ref qmh) (.ref qmo) (.ref qmz) (.ref qmR) (.ref qmv) (.ref qmk) (.ref qma) (.ref qmt) (.int (nI kZ)) qmr tA qmB qmO qmK iEn iTk (ov uP) (ov uU) (.int (nI kAt)) (.int iTo) (.int iFr) (.long JFi) (.int iFa) (.ref qm3) (.int iSt) iLv iWs vLa (.ref qmu) (.ref qmy) (.ref qmb) (.ref qms) (.int iOm) fMr) L_X6_91 hN hP hD hS hA [0, 14] [false, true, true, true, true, true, true, true, true, true, true, true, true, true, false] rfl (by decide +kernel) rfl 0 5 rfl rfl rfl ⟨Nat.le_of_ble_eq_true rfl, Nat.le_of_ble_eq_true rfl⟩ hl.1 (Nat.le_of_ble_eq_true rfl) dX6_copy_184 ⟨Nat.le_of_ble_eq_true rfl, Nat.le_of_ble_eq_true rfl⟩ (fun r_254 u_256 H locs h_255 => ?_)
                                  clear hP hD hS
                                  intro hP hD hS
                                  obtain ⟨fX_257, rfl, h_255⟩ := h_255
                                  have hPD := pd_as [zzI cy qmh 8 fMh, zzI cy qmo 8 fMo, zzI cy qmz 8 fMz, zzG cy 4 qmR rR, zzJ cy (rR 0) 40 (eR 0), zzJ cy (rR 1) 40 (eR 1), zzJ cy (rR 2) 40 (eR 2), zzJ cy (rR 3) 40 (eR 3), zzJ cy (rR 4) 40 (eR 4), zzJ cy (rR 5) 40 (eR 5), zzJ cy (rR 6) 40 (eR 6), zzJ cy (rR 7) 40 (eR 7), zzJ cy qmv 40 gMv, zzO qm 5 [.ref qmh, .ref qmo, .ref qmz, .ref qmR, .ref qmv, .ref qmk, .ref qma, .ref qmt, .int (nI kZ), .ref qmr, .int (nI (T_nb tA)), .ref qmB, .int (nI (T_np tA)), .ref qmO, .ref qmK, .int iEn, .int iTk, .int (T_sd tA), ov uP, ov uU, .int (nI kAt), .int iTo, .int iFr, .long JFi, .int iFa, .ref qm3, .int iSt, .int iLv, .int iWs, vLa, .ref qmu, .ref qmy, .ref qmb, .ref qms, .int iOm], zzI cy qmr 8 fX_257] hP hD rfl
                                  clear hP hD
                                  obtain ⟨hP, hD⟩ := hPD
                                  subst h_255
                                  exact endW (u := [zzO qm 5 [.ref qmh, .ref qmo, .ref qmz, .ref qmR, .ref qmv, .ref qmk, .ref qma, .ref qmt, .int (nI kZ), .ref qmr, .int (nI (T_nb tA)), .ref qmB, .int (nI (T_np tA)), .ref qmO, .ref qmK, .int iEn, .int iTk, .int (T_sd tA), ov uP, ov uU, .int (nI kAt), .int iTo, .int iFr, .long JFi, .int iFa, .ref qm3, .int iSt, .int iLv, .int iWs, vLa, .ref qmu, .ref qmy, .ref qmb, .ref qms, .int iOm], zzI cy qmh 8 fMh, zzI cy qmo 8 fMo, zzI cy qmz 8 fMz, zzG cy 4 qmR rR, zzJ cy (rR 0) 40 (eR 0), zzJ cy (rR 1) 40 (eR 1), zzJ cy (rR 2) 40 (eR 2), zzJ cy (rR 3) 40 (eR 3), zzJ cy (rR 4) 40 (eR 4), zzJ cy (rR 5) 40 (eR 5), zzJ cy (rR 6) 40 (eR 6), zzJ cy (rR 7) 40 (eR 7), zzJ cy qmv 40 gMv, zzI cy qmr 8 fX_257]) hx hb hr hlocks rfl (hP.sub [13, 0, 1, 2, 3, 4, 5, 6, 7, 8, 9, 10, 11, 12, 14] rfl) (hD.sub [13, 0, 1, 2, 3, 4, 5, 6, 7, 8, 9, 10, 11, 12, 14] (by decide +kernel) rfl) hS ⟨eR, gMv, fX_257, rfl, Or.inl ⟨rfl, Or.inr ⟨k_4, k_11, by omega, by omega, rfl, rfl, c_15, c_20, c_184, c_189, (fun h1 h2 => c_183), (fun q => c_220 (q.2.2.2.2.2.2))⟩, rfl⟩, trivial⟩ dX6_copy_187
                  · refine lv_aload_n hx hb dX6_copy_111 rfl (lv_at hl 0 rfl) ?_
                    refine lv_bipush (v := (-4)) hx hb dX6_copy_112 (by decide) ?_
                    refine cVi (As := [.int (-4)]) (rest := []) (b := qm) (q := (RX6, TX6, 35)) ⟨hx, hb, hml, hown, hts⟩ (c_X6_refuse4 l G cy (s.heap).size qm (.ref qmh) (.ref qmo) (.ref qmz) (.ref qmR) (.ref qmv) (.ref qmk) (.ref qma) (.ref qmt) (.int (nI kZ)) qmr tA qmB qmO qmK iEn iTk (ov uP) (ov uU) (.int (nI kAt)) (.int iTo) (.int iFr) (.long JFi) (.int iFa) (.ref qm3) (.int iSt) iLv iWs vLa (.ref qmu) (.ref qmy) (.ref qmb) (.ref qms) (.int iOm) fMr) L_X6_91 hN hP hD hS hA [0, 14] [false, true, true, true, true, true, true, true, true, true, true, true, true, true, false] rfl (by decide +kernel) rfl 0 5 rfl rfl rfl ⟨Nat.le_of_ble_eq_true rfl, Nat.le_of_ble_eq_true rfl⟩ hl.1 (Nat.le_of_ble_eq_true rfl) dX6_copy_114 ⟨Nat.le_of_ble_eq_true rfl, Nat.le_of_ble_eq_true rfl⟩ (fun r_258 u_260 H locs h_259 => ?_)
                    clear hP hD hS
                    intro hP hD hS
                    obtain ⟨fX_261, rfl, h_259⟩ := h_259
                    have hPD := pd_as [zzI cy qmh 8 fMh, zzI cy qmo 8 fMo, zzI cy qmz 8 fMz, zzG cy 4 qmR rR, zzJ cy (rR 0) 40 (eR 0), zzJ cy (rR 1) 40 (eR 1), zzJ cy (rR 2) 40 (eR 2), zzJ cy (rR 3) 40 (eR 3), zzJ cy (rR 4) 40 (eR 4), zzJ cy (rR 5) 40 (eR 5), zzJ cy (rR 6) 40 (eR 6), zzJ cy (rR 7) 40 (eR 7), zzJ cy qmv 40 gMv, zzO qm 5 [.ref qmh, .ref qmo, .ref qmz, .ref qmR, .ref qmv, .ref qmk, .ref qma, .ref qmt, .int (nI kZ), .ref qmr, .int (nI (T_nb tA)), .ref qmB, .int (nI (T_np tA)), .ref qmO, .ref qmK, .int iEn, .int iTk, .int (T_sd tA), ov uP, ov uU, .int (nI kAt), .int iTo, .int iFr, .long JFi, .int iFa, .ref qm3, .int iSt, .int iLv, .int iWs, vLa, .ref qmu, .ref qmy, .ref qmb, .ref qms, .int iOm], zzI cy qmr 8 fX_261] hP hD rfl
                    clear hP hD
                    obtain ⟨hP, hD⟩ := hPD
                    subst h_259
                    exact endW (u := [zzO qm 5 [.ref qmh, .ref qmo, .ref qmz, .ref qmR, .ref qmv, .ref qmk, .ref qma, .ref qmt, .int (nI kZ), .ref qmr, .int (nI (T_nb tA)), .ref qmB, .int (nI (T_np tA)), .ref qmO, .ref qmK, .int iEn, .int iTk, .int (T_sd tA), ov uP, ov uU, .int (nI kAt), .int iTo, .int iFr, .long JFi, .int iFa, .ref qm3, .int iSt, .int iLv, .int iWs, vLa, .ref qmu, .ref qmy, .ref qmb, .ref qms, .int iOm], zzI cy qmh 8 fMh, zzI cy qmo 8 fMo, zzI cy qmz 8 fMz, zzG cy 4 qmR rR, zzJ cy (rR 0) 40 (eR 0), zzJ cy (rR 1) 40 (eR 1), zzJ cy (rR 2) 40 (eR 2), zzJ cy (rR 3) 40 (eR 3), zzJ cy (rR 4) 40 (eR 4), zzJ cy (rR 5) 40 (eR 5), zzJ cy (rR 6) 40 (eR 6), zzJ cy (rR 7) 40 (eR 7), zzJ cy qmv 40 gMv, zzI cy qmr 8 fX_261]) hx hb hr hlocks rfl (hP.sub [13, 0, 1, 2, 3, 4, 5, 6, 7, 8, 9, 10, 11, 12, 14] rfl) (hD.sub [13, 0, 1, 2, 3, 4, 5, 6, 7, 8, 9, 10, 11, 12, 14] (by decide +kernel) rfl) hS ⟨eR, gMv, fX_261, rfl, Or.inr (Or.inr (Or.inl ⟨rfl, ⟨k_4, k_11, by omega, by omega, rfl, rfl, c_15, c_20, Or.inr c_189⟩, rfl⟩)), trivial⟩ dX6_copy_117
              · refine lv_aload_n hx hb dX6_copy_86 rfl (lv_at hl 0 rfl) ?_
                refine lv_bipush (v := (-3)) hx hb dX6_copy_87 (by decide) ?_
                refine cVi (As := [.int (-3)]) (rest := []) (b := qm) (q := (RX6, TX6, 35)) ⟨hx, hb, hml, hown, hts⟩ (c_X6_refuse3 l G cy (s.heap).size qm (.ref qmh) (.ref qmo) (.ref qmz) (.ref qmR) (.ref qmv) (.ref qmk) (.ref qma) (.ref qmt) (.int (nI kZ)) qmr tA qmB qmO qmK iEn iTk (ov uP) (ov uU) (.int (nI kAt)) (.int iTo) (.int iFr) (.long JFi) (.int iFa) (.ref qm3) (.int iSt) iLv iWs vLa (.ref qmu) (.ref qmy) (.ref qmb) (.ref qms) (.int iOm) fMr) L_X6_91 hN hP hD hS hA [0, 14] [false, true, true, true, true, true, true, true, true, true, true, true, true, true, false] rfl (by decide +kernel) rfl 0 5 rfl rfl rfl ⟨Nat.le_of_ble_eq_true rfl, Nat.le_of_ble_eq_true rfl⟩ hl.1 (Nat.le_of_ble_eq_true rfl) dX6_copy_89 ⟨Nat.le_of_ble_eq_true rfl, Nat.le_of_ble_eq_true rfl⟩ (fun r_262 u_264 H locs h_263 => ?_)
                clear hP hD hS
                intro hP hD hS
                obtain ⟨fX_265, rfl, h_263⟩ := h_263
                have hPD := pd_as [zzI cy qmh 8 fMh, zzI cy qmo 8 fMo, zzI cy qmz 8 fMz, zzG cy 4 qmR rR, zzJ cy (rR 0) 40 (eR 0), zzJ cy (rR 1) 40 (eR 1), zzJ cy (rR 2) 40 (eR 2), zzJ cy (rR 3) 40 (eR 3), zzJ cy (rR 4) 40 (eR 4), zzJ cy (rR 5) 40 (eR 5), zzJ cy (rR 6) 40 (eR 6), zzJ cy (rR 7) 40 (eR 7), zzJ cy qmv 40 gMv, zzO qm 5 [.ref qmh, .ref qmo, .ref qmz, .ref qmR, .ref qmv, .ref qmk, .ref qma, .ref qmt, .int (nI kZ), .ref qmr, .int (nI (T_nb tA)), .ref qmB, .int (nI (T_np tA)), .ref qmO, .ref qmK, .int iEn, .int iTk, .int (T_sd tA), ov uP, ov uU, .int (nI kAt), .int iTo, .int iFr, .long JFi, .int iFa, .ref qm3, .int iSt, .int iLv, .int iWs, vLa, .ref qmu, .ref qmy, .ref qmb, .ref qms, .int iOm], zzI cy qmr 8 fX_265] hP hD rfl
                clear hP hD
                obtain ⟨hP, hD⟩ := hPD
                subst h_263
                exact endW (u := [zzO qm 5 [.ref qmh, .ref qmo, .ref qmz, .ref qmR, .ref qmv, .ref qmk, .ref qma, .ref qmt, .int (nI kZ), .ref qmr, .int (nI (T_nb tA)), .ref qmB, .int (nI (T_np tA)), .ref qmO, .ref qmK, .int iEn, .int iTk, .int (T_sd tA), ov uP, ov uU, .int (nI kAt), .int iTo, .int iFr, .long JFi, .int iFa, .ref qm3, .int iSt, .int iLv, .int iWs, vLa, .ref qmu, .ref qmy, .ref qmb, .ref qms, .int iOm], zzI cy qmh 8 fMh, zzI cy qmo 8 fMo, zzI cy qmz 8 fMz, zzG cy 4 qmR rR, zzJ cy (rR 0) 40 (eR 0), zzJ cy (rR 1) 40 (eR 1), zzJ cy (rR 2) 40 (eR 2), zzJ cy (rR 3) 40 (eR 3), zzJ cy (rR 4) 40 (eR 4), zzJ cy (rR 5) 40 (eR 5), zzJ cy (rR 6) 40 (eR 6), zzJ cy (rR 7) 40 (eR 7), zzJ cy qmv 40 gMv, zzI cy qmr 8 fX_265]) hx hb hr hlocks rfl (hP.sub [13, 0, 1, 2, 3, 4, 5, 6, 7, 8, 9, 10, 11, 12, 14] rfl) (hD.sub [13, 0, 1, 2, 3, 4, 5, 6, 7, 8, 9, 10, 11, 12, 14] (by decide +kernel) rfl) hS ⟨eR, gMv, fX_265, rfl, Or.inr (Or.inl ⟨rfl, ⟨k_4, k_11, by omega, by omega, rfl, rfl, Or.inr (Or.inr ⟨c_25, c_104, c_183⟩)⟩, rfl⟩), trivial⟩ dX6_copy_92
    · refine lv_if_ne (tgt := 31) hx hb dX6_copy_21 (by decide) (fun h9 => absurd (by decide) h9) (fun _ => ?_)
      refine lv_aload_n hx hb dX6_copy_24 rfl (lv_at hl 0 rfl) ?_
      refine lv_bipush (v := (-2)) hx hb dX6_copy_25 (by decide) ?_
      refine cVi (As := [.int (-2)]) (rest := []) (b := qm) (q := (RX6, TX6, 35)) ⟨hx, hb, hml, hown, hts⟩ (c_X6_refuse2 l G cy (s.heap).size qm (.ref qmh) (.ref qmo) (.ref qmz) (.ref qmR) (.ref qmv) (.ref qmk) (.ref qma) (.ref qmt) (.int (nI kZ)) qmr tA qmB qmO qmK iEn iTk (ov uP) (ov uU) (.int (nI kAt)) (.int iTo) (.int iFr) (.long JFi) (.int iFa) (.ref qm3) (.int iSt) iLv iWs vLa (.ref qmu) (.ref qmy) (.ref qmb) (.ref qms) (.int iOm) fMr) L_X6_91 hN hP hD hS hA [0, 14] [false, true, true, true, true, true, true, true, true, true, true, true, true, true, false] rfl (by decide +kernel) rfl 0 5 rfl rfl rfl ⟨Nat.le_of_ble_eq_true rfl, Nat.le_of_ble_eq_true rfl⟩ hl.1 (Nat.le_of_ble_eq_true rfl) dX6_copy_27 ⟨Nat.le_of_ble_eq_true rfl, Nat.le_of_ble_eq_true rfl⟩ (fun r_267 u_269 H locs h_268 => ?_)
      clear hP hD hS
      intro hP hD hS
      obtain ⟨fX_270, rfl, h_268⟩ := h_268
      have hPD := pd_as [zzI cy qmh 8 fMh, zzI cy qmo 8 fMo, zzI cy qmz 8 fMz, zzG cy 4 qmR rR, zzJ cy (rR 0) 40 (eR 0), zzJ cy (rR 1) 40 (eR 1), zzJ cy (rR 2) 40 (eR 2), zzJ cy (rR 3) 40 (eR 3), zzJ cy (rR 4) 40 (eR 4), zzJ cy (rR 5) 40 (eR 5), zzJ cy (rR 6) 40 (eR 6), zzJ cy (rR 7) 40 (eR 7), zzJ cy qmv 40 gMv, zzO qm 5 [.ref qmh, .ref qmo, .ref qmz, .ref qmR, .ref qmv, .ref qmk, .ref qma, .ref qmt, .int (nI kZ), .ref qmr, .int (nI (T_nb tA)), .ref qmB, .int (nI (T_np tA)), .ref qmO, .ref qmK, .int iEn, .int iTk, .int (T_sd tA), ov uP, ov uU, .int (nI kAt), .int iTo, .int iFr, .long JFi, .int iFa, .ref qm3, .int iSt, .int iLv, .int iWs, vLa, .ref qmu, .ref qmy, .ref qmb, .ref qms, .int iOm], zzI cy qmr 8 fX_270] hP hD rfl
      clear hP hD
      obtain ⟨hP, hD⟩ := hPD
      subst h_268
      exact endW (u := [zzO qm 5 [.ref qmh, .ref qmo, .ref qmz, .ref qmR, .ref qmv, .ref qmk, .ref qma, .ref qmt, .int (nI kZ), .ref qmr, .int (nI (T_nb tA)), .ref qmB, .int (nI (T_np tA)), .ref qmO, .ref qmK, .int iEn, .int iTk, .int (T_sd tA), ov uP, ov uU, .int (nI kAt), .int iTo, .int iFr, .long JFi, .int iFa, .ref qm3, .int iSt, .int iLv, .int iWs, vLa, .ref qmu, .ref qmy, .ref qmb, .ref qms, .int iOm], zzI cy qmh 8 fMh, zzI cy qmo 8 fMo, zzI cy qmz 8 fMz, zzG cy 4 qmR rR, zzJ cy (rR 0) 40 (eR 0), zzJ cy (rR 1) 40 (eR 1), zzJ cy (rR 2) 40 (eR 2), zzJ cy (rR 3) 40 (eR 3), zzJ cy (rR 4) 40 (eR 4), zzJ cy (rR 5) 40 (eR 5), zzJ cy (rR 6) 40 (eR 6), zzJ cy (rR 7) 40 (eR 7), zzJ cy qmv 40 gMv, zzI cy qmr 8 fX_270]) hx hb hr hlocks rfl (hP.sub [13, 0, 1, 2, 3, 4, 5, 6, 7, 8, 9, 10, 11, 12, 14] rfl) (hD.sub [13, 0, 1, 2, 3, 4, 5, 6, 7, 8, 9, 10, 11, 12, 14] (by decide +kernel) rfl) hS ⟨eR, gMv, fX_270, rfl, Or.inl ⟨rfl, Or.inl (fun ⟨_, m, _, h2, _, h4⟩ => no_of7 h_10 ⟨m, h2, h4⟩), rfl⟩, trivial⟩ dX6_copy_30
  · refine lv_if_eq (tgt := 24) hx hb dX6_copy_9 (by decide) (fun _ => ?_) (fun h9 => absurd (by decide) h9)
    refine lv_aload_n hx hb dX6_copy_24 rfl (lv_at hl 0 rfl) ?_
    refine lv_bipush (v := (-2)) hx hb dX6_copy_25 (by decide) ?_
    refine cVi (As := [.int (-2)]) (rest := []) (b := qm) (q := (RX6, TX6, 35)) ⟨hx, hb, hml, hown, hts⟩ (c_X6_refuse2 l G cy (s.heap).size qm (.ref qmh) (.ref qmo) (.ref qmz) (.ref qmR) (.ref qmv) (.ref qmk) (.ref qma) (.ref qmt) (.int (nI kZ)) qmr tA qmB qmO qmK iEn iTk (ov uP) (ov uU) (.int (nI kAt)) (.int iTo) (.int iFr) (.long JFi) (.int iFa) (.ref qm3) (.int iSt) iLv iWs vLa (.ref qmu) (.ref qmy) (.ref qmb) (.ref qms) (.int iOm) fMr) L_X6_91 hN hP hD hS hA [0, 14] [false, true, true, true, true, true, true, true, true, true, true, true, true, true, false] rfl (by decide +kernel) rfl 0 5 rfl rfl rfl ⟨Nat.le_of_ble_eq_true rfl, Nat.le_of_ble_eq_true rfl⟩ hl.1 (Nat.le_of_ble_eq_true rfl) dX6_copy_27 ⟨Nat.le_of_ble_eq_true rfl, Nat.le_of_ble_eq_true rfl⟩ (fun r_272 u_274 H locs h_273 => ?_)
    clear hP hD hS
    intro hP hD hS
    obtain ⟨fX_275, rfl, h_273⟩ := h_273
    have hPD := pd_as [zzI cy qmh 8 fMh, zzI cy qmo 8 fMo, zzI cy qmz 8 fMz, zzG cy 4 qmR rR, zzJ cy (rR 0) 40 (eR 0), zzJ cy (rR 1) 40 (eR 1), zzJ cy (rR 2) 40 (eR 2), zzJ cy (rR 3) 40 (eR 3), zzJ cy (rR 4) 40 (eR 4), zzJ cy (rR 5) 40 (eR 5), zzJ cy (rR 6) 40 (eR 6), zzJ cy (rR 7) 40 (eR 7), zzJ cy qmv 40 gMv, zzO qm 5 [.ref qmh, .ref qmo, .ref qmz, .ref qmR, .ref qmv, .ref qmk, .ref qma, .ref qmt, .int (nI kZ), .ref qmr, .int (nI (T_nb tA)), .ref qmB, .int (nI (T_np tA)), .ref qmO, .ref qmK, .int iEn, .int iTk, .int (T_sd tA), ov uP, ov uU, .int (nI kAt), .int iTo, .int iFr, .long JFi, .int iFa, .ref qm3, .int iSt, .int iLv, .int iWs, vLa, .ref qmu, .ref qmy, .ref qmb, .ref qms, .int iOm], zzI cy qmr 8 fX_275] hP hD rfl
    clear hP hD
    obtain ⟨hP, hD⟩ := hPD
    subst h_273
    exact endW (u := [zzO qm 5 [.ref qmh, .ref qmo, .ref qmz, .ref qmR, .ref qmv, .ref qmk, .ref qma, .ref qmt, .int (nI kZ), .ref qmr, .int (nI (T_nb tA)), .ref qmB, .int (nI (T_np tA)), .ref qmO, .ref qmK, .int iEn, .int iTk, .int (T_sd tA), ov uP, ov uU, .int (nI kAt), .int iTo, .int iFr, .long JFi, .int iFa, .ref qm3, .int iSt, .int iLv, .int iWs, vLa, .ref qmu, .ref qmy, .ref qmb, .ref qms, .int iOm], zzI cy qmh 8 fMh, zzI cy qmo 8 fMo, zzI cy qmz 8 fMz, zzG cy 4 qmR rR, zzJ cy (rR 0) 40 (eR 0), zzJ cy (rR 1) 40 (eR 1), zzJ cy (rR 2) 40 (eR 2), zzJ cy (rR 3) 40 (eR 3), zzJ cy (rR 4) 40 (eR 4), zzJ cy (rR 5) 40 (eR 5), zzJ cy (rR 6) 40 (eR 6), zzJ cy (rR 7) 40 (eR 7), zzJ cy qmv 40 gMv, zzI cy qmr 8 fX_275]) hx hb hr hlocks rfl (hP.sub [13, 0, 1, 2, 3, 4, 5, 6, 7, 8, 9, 10, 11, 12, 14] rfl) (hD.sub [13, 0, 1, 2, 3, 4, 5, 6, 7, 8, 9, 10, 11, 12, 14] (by decide +kernel) rfl) hS ⟨eR, gMv, fX_275, rfl, Or.inl ⟨rfl, Or.inl (fun ⟨k, _, h1, _, h3, _⟩ => no_of7 h_3 ⟨k, h1, h3⟩), rfl⟩, trivial⟩ dX6_copy_30
set_option maxHeartbeats 4000000 in
set_option maxRecDepth 100000 in
theorem p_X6_element (l : Launch) (G : va_G) (cy : Nat → ClassId) (qm : Nat) (qmh : Nat) (qmo : Nat) (qmz : Nat) (qmR : Nat) (qmv : Nat) (qmk : Nat) (qma : Nat) (qmt : Nat) (kZ : Nat) (qmr : Nat) (tA : TA) (qmB : Nat) (qmO : Nat) (qmK : Nat) (iEn : Int32) (iTk : Int32) (uP : UM) (uU : UM) (kAt : Nat) (iTo : Int32) (iFr : Int32) (JFi : Int64) (iFa : Int32) (qm3 : Nat) (iSt : Int32) (iLv : Int32) (iWs : Int32) (vLa : Value) (qmu : Nat) (qmy : Nat) (qmb : Nat) (qms : Nat) (iOm : Int32) (fMh : Nat → Int32) (fMz : Nat → Int32) (rR : Nat → Nat) (eR : Nat → Nat → Int64) (iA : Int32) (iB : Int32)  (hSz : ∀ s, s < 8 → ∃ n : Nat, n ≤ 40 ∧ fMz s = nI n) : MR l yX6_element cX6_element 3 (some .long) 6 G cy [zzO qm 5 [.ref qmh, .ref qmo, .ref qmz, .ref qmR, .ref qmv, .ref qmk, .ref qma, .ref qmt, .int (nI kZ), .ref qmr, .int (nI (T_nb tA)), .ref qmB, .int (nI (T_np tA)), .ref qmO, .ref qmK, .int iEn, .int iTk, .int (T_sd tA), ov uP, ov uU, .int (nI kAt), .int iTo, .int iFr, .long JFi, .int iFa, .ref qm3, .int iSt, .int iLv, .int iWs, vLa, .ref qmu, .ref qmy, .ref qmb, .ref qms, .int iOm], zzI cy qmh 8 fMh, zzI cy qmz 8 fMz, zzG cy 4 qmR rR, zzJ cy (rR 0) 40 (eR 0), zzJ cy (rR 1) 40 (eR 1), zzJ cy (rR 2) 40 (eR 2), zzJ cy (rR 3) 40 (eR 3), zzJ cy (rR 4) 40 (eR 4), zzJ cy (rR 5) 40 (eR 5), zzJ cy (rR 6) 40 (eR 6), zzJ cy (rR 7) 40 (eR 7)] [.ref qm, .int iA, .int iB] (vp_Sl (fun r => PMelem fMh fMz eR iA iB r)) := by
  refine enR RX6 (by decide) rfl (Nat.le_of_ble_eq_true rfl) (fun p e s m below meth c ls hx hb hml hown hts hr hlocks hP hN hl => ?_)
  have hK := hN.1
  replace hl : lv_has ls 3 [(0, .ref qm), (1, .int iA), (2, .int iB)] := hl
  refine lv_iload_n hx hb dX6_element_0 rfl (lv_at hl 1 rfl) ?_
  refine lv_i2l (v := iA.toInt64) hx hb dX6_element_1 rfl ?_
  refine lv_lconst (v := 0) hx hb dX6_element_2 (by decide) ?_
  refine lv_ldc2 hx hb hown (hts _ m_t960) dX6_element_3 ?_
  refine kRi (rS (As := [.long iA.toInt64, .long 0, .long 7]) (rest := []) ⟨hx, hb, hml, hown, hts⟩ (c_X6_in l G cy iA.toInt64 0 7) L_X6_74 (preRS hN hP [] rfl) rfl ⟨Nat.le_of_ble_eq_true rfl, Nat.le_of_ble_eq_true rfl⟩ hl.1 (Nat.le_of_ble_eq_true rfl) dX6_element_6 ⟨Nat.le_of_ble_eq_true rfl, Nat.le_of_ble_eq_true rfl⟩) (fun r_1 h_2 => ?_)
  rcases h_2 with ⟨rfl, h_3⟩ | ⟨rfl, h_3⟩
  · obtain ⟨k_4, hk_5, hk_6, rfl⟩ := iv_nI 0 7 (by decide) (by decide) h_3
    refine lv_if_eq (tgt := 51) hx hb dX6_element_9 (by decide) (fun h9 => absurd h9 (by decide)) (fun _ => ?_)
    refine lv_aload_n hx hb dX6_element_12 rfl (lv_at hl 0 rfl) ?_
    refine va_get (D := G) (ci := 5) (v := .ref qmh) (C := RX6) (T := TX6) (N := 35) hx hb hts iX_X6 hown hK hP 0 rfl rfl 0 (by decide) (hts _ m_t850) (fun _ h9 => h9) rfl dX6_element_13 ?_
    refine lv_iload_n hx hb dX6_element_16 rfl (lv_at hl 1 rfl) ?_
    refine va_iald hx hb hK hP 1 0 rfl rfl (in_shelf h_3) dX6_element_17 ?_
    refine lv_seti (v := fMh k_4) (congrArg fMh (cl8 (by omega))) ?_
    refine lv_iconst (v := 1) hx hb dX6_element_18 (by decide) ?_
    refine lv_icmp_ne (tgt := 51) hx hb dX6_element_19 (by decide) (fun c_8 => ?_) (fun c_8 => ?_)
    · refine lv_lconst (v := 0) hx hb dX6_element_51 (by decide) ?_
      exact endRl hx hb hr hlocks (Or.inl ⟨rfl, (fun ⟨k, h1, h2, h3, h4⟩ => by have e := nI_inj (by omega) (by omega) h2; subst e; exact c_8 h3)⟩) dX6_element_52
    · refine lv_iload_n hx hb dX6_element_22 rfl (lv_at hl 2 rfl) ?_
      refine lv_i2l (v := iB.toInt64) hx hb dX6_element_23 rfl ?_
      refine lv_lconst (v := 0) hx hb dX6_element_24 (by decide) ?_
      refine lv_aload_n hx hb dX6_element_25 rfl (lv_at hl 0 rfl) ?_
      refine va_get (D := G) (ci := 5) (v := .ref qmz) (C := RX6) (T := TX6) (N := 35) hx hb hts iX_X6 hown hK hP 0 rfl rfl 2 (by decide) (hts _ m_t852) (fun _ h9 => h9) rfl dX6_element_26 ?_
      refine lv_iload_n hx hb dX6_element_29 rfl (lv_at hl 1 rfl) ?_
      refine va_iald hx hb hK hP 2 0 rfl rfl (in_shelf h_3) dX6_element_30 ?_
      refine lv_seti (v := fMz k_4) (congrArg fMz (cl8 (by omega))) ?_
      refine lv_iconst (v := 1) hx hb dX6_element_31 (by decide) ?_
      refine lv_isub hx hb dX6_element_32 ?_
      refine lv_i2l (v := ((fMz k_4) - 1).toInt64) hx hb dX6_element_33 rfl ?_
      refine kRi (rS (As := [.long iB.toInt64, .long 0, .long (((fMz k_4) - 1).toInt64)]) (rest := []) ⟨hx, hb, hml, hown, hts⟩ (c_X6_in l G cy iB.toInt64 0 (((fMz k_4) - 1).toInt64)) L_X6_74 (preRS hN hP [] rfl) rfl ⟨Nat.le_of_ble_eq_true rfl, Nat.le_of_ble_eq_true rfl⟩ hl.1 (Nat.le_of_ble_eq_true rfl) dX6_element_34 ⟨Nat.le_of_ble_eq_true rfl, Nat.le_of_ble_eq_true rfl⟩) (fun r_9 h_10 => ?_)
      rcases h_10 with ⟨rfl, h_11⟩ | ⟨rfl, h_11⟩
      · refine lv_if_eq (tgt := 51) hx hb dX6_element_37 (by decide) (fun h9 => absurd h9 (by decide)) (fun _ => ?_)
        obtain ⟨n_13, hn_14, en_15⟩ := hSz k_4 (by omega)
        obtain ⟨k_16, hk_17, rfl⟩ := sz_in en_15 hn_14 h_11
        refine lv_aload_n hx hb dX6_element_40 rfl (lv_at hl 0 rfl) ?_
        refine va_get (D := G) (ci := 5) (v := .ref qmR) (C := RX6) (T := TX6) (N := 35) hx hb hts iX_X6 hown hK hP 0 rfl rfl 3 (by decide) (hts _ m_t853) (fun _ h9 => h9) rfl dX6_element_41 ?_
        refine lv_iload_n hx hb dX6_element_44 rfl (lv_at hl 1 rfl) ?_
        refine va_alda hx hb hK hP 3 4 rfl rfl (in_shelf h_3) dX6_element_45 ?_
        refine lv_setv (v := .ref (rR k_4)) (g_ref (by omega)) ?_
        refine lv_iload_n hx hb dX6_element_46 rfl (lv_at hl 2 rfl) ?_
        refine va_lald hx hb hK hP (4 + k_4) 1 (sg8 (n0 := 4) (f := (fun j => zzJ cy (rR j) 40 (eR j))) rfl rfl rfl rfl rfl rfl rfl rfl k_4 (by omega)) rfl (vp_in_nI (by omega) (by omega)) dX6_element_47 ?_
        refine lv_setl (v := eR k_4 k_16) (congrArg (eR k_4) (nI_clamp (by omega))) ?_
        refine lv_goto (tgt := 52) hx hb dX6_element_48 (by decide) ?_
        exact endRl hx hb hr hlocks (Or.inr ⟨k_4, k_16, by omega, rfl, c_8, by omega, rfl, h_11, rfl⟩) dX6_element_52
      · refine lv_if_eq (tgt := 51) hx hb dX6_element_37 (by decide) (fun _ => ?_) (fun h9 => absurd (by decide) h9)
        refine lv_lconst (v := 0) hx hb dX6_element_51 (by decide) ?_
        exact endRl hx hb hr hlocks (Or.inl ⟨rfl, (fun ⟨k, h1, h2, h3, h4⟩ => by have e := nI_inj (by omega) (by omega) h2; subst e; exact h_11 h4)⟩) dX6_element_52
  · refine lv_if_eq (tgt := 51) hx hb dX6_element_9 (by decide) (fun _ => ?_) (fun h9 => absurd (by decide) h9)
    refine lv_lconst (v := 0) hx hb dX6_element_51 (by decide) ?_
    exact endRl hx hb hr hlocks (Or.inl ⟨rfl, fun ⟨k, h1, h2, _⟩ => no_of7 h_3 ⟨k, h1, h2⟩⟩) dX6_element_52
set_option maxHeartbeats 4000000 in
set_option maxRecDepth 100000 in
theorem p_X6_holds (l : Launch) (G : va_G) (cy : Nat → ClassId) (qm : Nat) (qmh : Nat) (qmo : Nat) (qmz : Nat) (qmR : Nat) (qmv : Nat) (qmk : Nat) (qma : Nat) (qmt : Nat) (kZ : Nat) (qmr : Nat) (tA : TA) (qmB : Nat) (qmO : Nat) (qmK : Nat) (iEn : Int32) (iTk : Int32) (uP : UM) (uU : UM) (kAt : Nat) (iTo : Int32) (iFr : Int32) (JFi : Int64) (iFa : Int32) (qm3 : Nat) (iSt : Int32) (iLv : Int32) (iWs : Int32) (vLa : Value) (qmu : Nat) (qmy : Nat) (qmb : Nat) (qms : Nat) (iOm : Int32) (fMh : Nat → Int32) (fMo : Nat → Int32) (fMk : Nat → Int32) (iA : Int32)   : MR l yX6_holds cX6_holds 2 (some .int) 6 G cy [zzO qm 5 [.ref qmh, .ref qmo, .ref qmz, .ref qmR, .ref qmv, .ref qmk, .ref qma, .ref qmt, .int (nI kZ), .ref qmr, .int (nI (T_nb tA)), .ref qmB, .int (nI (T_np tA)), .ref qmO, .ref qmK, .int iEn, .int iTk, .int (T_sd tA), ov uP, ov uU, .int (nI kAt), .int iTo, .int iFr, .long JFi, .int iFa, .ref qm3, .int iSt, .int iLv, .int iWs, vLa, .ref qmu, .ref qmy, .ref qmb, .ref qms, .int iOm], zzI cy qmh 8 fMh, zzI cy qmo 8 fMo, zzI cy qmk 8 fMk] [.ref qm, .int iA] (vp_Si (fun r => PMholds fMh fMo fMk iA r)) := by
  refine enR RX6 (by decide) rfl (Nat.le_of_ble_eq_true rfl) (fun p e s m below meth c ls hx hb hml hown hts hr hlocks hP hN hl => ?_)
  have hK := hN.1
  replace hl : lv_has ls 2 [(0, .ref qm), (1, .int iA)] := hl
  refine lv_iload_n hx hb dX6_holds_0 rfl (lv_at hl 1 rfl) ?_
  refine lv_i2l (v := iA.toInt64) hx hb dX6_holds_1 rfl ?_
  refine lv_lconst (v := 0) hx hb dX6_holds_2 (by decide) ?_
  refine lv_ldc2 hx hb hown (hts _ m_t960) dX6_holds_3 ?_
  refine kRi (rS (As := [.long iA.toInt64, .long 0, .long 7]) (rest := []) ⟨hx, hb, hml, hown, hts⟩ (c_X6_in l G cy iA.toInt64 0 7) L_X6_74 (preRS hN hP [] rfl) rfl ⟨Nat.le_of_ble_eq_true rfl, Nat.le_of_ble_eq_true rfl⟩ hl.1 (Nat.le_of_ble_eq_true rfl) dX6_holds_6 ⟨Nat.le_of_ble_eq_true rfl, Nat.le_of_ble_eq_true rfl⟩) (fun r_1 h_2 => ?_)
  rcases h_2 with ⟨rfl, h_3⟩ | ⟨rfl, h_3⟩
  · obtain ⟨k_4, hk_5, hk_6, rfl⟩ := iv_nI 0 7 (by decide) (by decide) h_3
    refine lv_if_eq (tgt := 21) hx hb dX6_holds_9 (by decide) (fun h9 => absurd h9 (by decide)) (fun _ => ?_)
    refine lv_aload_n hx hb dX6_holds_12 rfl (lv_at hl 0 rfl) ?_
    refine va_get (D := G) (ci := 5) (v := .ref qmh) (C := RX6) (T := TX6) (N := 35) hx hb hts iX_X6 hown hK hP 0 rfl rfl 0 (by decide) (hts _ m_t850) (fun _ h9 => h9) rfl dX6_holds_13 ?_
    refine lv_iload_n hx hb dX6_holds_16 rfl (lv_at hl 1 rfl) ?_
    refine va_iald hx hb hK hP 1 0 rfl rfl (in_shelf h_3) dX6_holds_17 ?_
    refine lv_seti (v := fMh k_4) (congrArg fMh (cl8 (by omega))) ?_
    refine lv_if_ne (tgt := 23) hx hb dX6_holds_18 (by decide) (fun c_8 => ?_) (fun c_8 => ?_)
    · refine lv_aload_n hx hb dX6_holds_23 rfl (lv_at hl 0 rfl) ?_
      refine va_get (D := G) (ci := 5) (v := .ref qmh) (C := RX6) (T := TX6) (N := 35) hx hb hts iX_X6 hown hK hP 0 rfl rfl 0 (by decide) (hts _ m_t850) (fun _ h9 => h9) rfl dX6_holds_24 ?_
      refine lv_iload_n hx hb dX6_holds_27 rfl (lv_at hl 1 rfl) ?_
      refine va_iald hx hb hK hP 1 0 rfl rfl (in_shelf h_3) dX6_holds_28 ?_
      refine lv_seti (v := fMh k_4) (congrArg fMh (cl8 (by omega))) ?_
      refine lv_iconst (v := 1) hx hb dX6_holds_29 (by decide) ?_
      refine lv_icmp_ne (tgt := 42) hx hb dX6_holds_30 (by decide) (fun c_9 => ?_) (fun c_9 => ?_)
      · refine lv_bipush (v := 10) hx hb dX6_holds_42 (by decide) ?_
        refine lv_aload_n hx hb dX6_holds_44 rfl (lv_at hl 0 rfl) ?_
        refine va_get (D := G) (ci := 5) (v := .ref qmk) (C := RX6) (T := TX6) (N := 35) hx hb hts iX_X6 hown hK hP 0 rfl rfl 5 (by decide) (hts _ m_t855) (fun _ h9 => h9) rfl dX6_holds_45 ?_
        refine lv_iload_n hx hb dX6_holds_48 rfl (lv_at hl 1 rfl) ?_
        refine va_iald hx hb hK hP 3 0 rfl rfl (in_shelf h_3) dX6_holds_49 ?_
        refine lv_seti (v := fMk k_4) (congrArg fMk (cl8 (by omega))) ?_
        refine lv_iadd hx hb dX6_holds_50 ?_
        exact endR hx hb hr hlocks rfl (Or.inr ⟨k_4, by omega, rfl, Or.inr (Or.inr ⟨c_8, c_9, rfl⟩)⟩) dX6_holds_51
      · refine lv_aload_n hx hb dX6_holds_33 rfl (lv_at hl 0 rfl) ?_
        refine va_get (D := G) (ci := 5) (v := .ref qmo) (C := RX6) (T := TX6) (N := 35) hx hb hts iX_X6 hown hK hP 0 rfl rfl 1 (by decide) (hts _ m_t851) (fun _ h9 => h9) rfl dX6_holds_34 ?_
        refine lv_iload_n hx hb dX6_holds_37 rfl (lv_at hl 1 rfl) ?_
        refine va_iald hx hb hK hP 2 0 rfl rfl (in_shelf h_3) dX6_holds_38 ?_
        refine lv_seti (v := fMo k_4) (congrArg fMo (cl8 (by omega))) ?_
        refine lv_goto (tgt := 51) hx hb dX6_holds_39 (by decide) ?_
        exact endR hx hb hr hlocks rfl (Or.inr ⟨k_4, by omega, rfl, Or.inr (Or.inl ⟨c_9, rfl⟩)⟩) dX6_holds_51
    · refine lv_iconst (v := (-1)) hx hb dX6_holds_21 (by decide) ?_
      exact endR hx hb hr hlocks rfl (Or.inr ⟨k_4, by omega, rfl, Or.inl ⟨c_8, rfl⟩⟩) dX6_holds_22
  · refine lv_if_eq (tgt := 21) hx hb dX6_holds_9 (by decide) (fun _ => ?_) (fun h9 => absurd (by decide) h9)
    refine lv_iconst (v := (-1)) hx hb dX6_holds_21 (by decide) ?_
    exact endR hx hb hr hlocks rfl (Or.inl ⟨rfl, no_of7 h_3⟩) dX6_holds_22
set_option maxHeartbeats 4000000 in
set_option maxRecDepth 100000 in
theorem p_X6_rule (l : Launch) (G : va_G) (cy : Nat → ClassId) (sz : Nat) (qm : Nat) (qmh : Nat) (qmo : Nat) (qmz : Nat) (qmR : Nat) (qmv : Nat) (qmk : Nat) (qma : Nat) (qmt : Nat) (kZ : Nat) (qmr : Nat) (tA : TA) (qmB : Nat) (qmO : Nat) (qmK : Nat) (iEn : Int32) (iTk : Int32) (uP : UM) (uU : UM) (kAt : Nat) (iTo : Int32) (iFr : Int32) (JFi : Int64) (iFa : Int32) (qm3 : Nat) (iSt : Int32) (iLv : Int32) (iWs : Int32) (vLa : Value) (qmu : Nat) (qmy : Nat) (qmb : Nat) (qms : Nat) (iOm : Int32) (fMh : Nat → Int32) (fMk : Nat → Int32) (fMa : Nat → Int32) (fMr : Nat → Int32) (iA : Int32) (iB : Int32) (iC : Int32)   : MW l yX6_rule cX6_rule 4 (some .int) 16 0 0 G cy [zzO qm 5 [.ref qmh, .ref qmo, .ref qmz, .ref qmR, .ref qmv, .ref qmk, .ref qma, .ref qmt, .int (nI kZ), .ref qmr, .int (nI (T_nb tA)), .ref qmB, .int (nI (T_np tA)), .ref qmO, .ref qmK, .int iEn, .int iTk, .int (T_sd tA), ov uP, ov uU, .int (nI kAt), .int iTo, .int iFr, .long JFi, .int iFa, .ref qm3, .int iSt, .int iLv, .int iWs, vLa, .ref qmu, .ref qmy, .ref qmb, .ref qms, .int iOm], zzI cy qmh 8 fMh, zzI cy qmk 8 fMk, zzI cy qma 8 fMa, zzI cy qmr 8 fMr] sz [.ref qm, .int iA, .int iB, .int iC] (Wi G (fun r u => ∃ (fNh : Nat → Int32) (fNk : Nat → Int32) (fNa : Nat → Int32) (fNr : Nat → Int32), u = [zzO qm 5 [.ref qmh, .ref qmo, .ref qmz, .ref qmR, .ref qmv, .ref qmk, .ref qma, .ref qmt, .int (nI kZ), .ref qmr, .int (nI (T_nb tA)), .ref qmB, .int (nI (T_np tA)), .ref qmO, .ref qmK, .int iEn, .int iTk, .int (T_sd tA), ov uP, ov uU, .int (nI kAt), .int iTo, .int iFr, .long JFi, .int iFa, .ref qm3, .int iSt, .int iLv, .int iWs, vLa, .ref qmu, .ref qmy, .ref qmb, .ref qms, .int iOm], zzI cy qmh 8 fNh, zzI cy qmk 8 fNk, zzI cy qma 8 fNa, zzI cy qmr 8 fNr] ∧ (PMrule fMh fMk fMa iA iB iC r fNh fNk fNa) ∧ (True))) := by
  refine enW RX6 (by decide) rfl (Nat.le_of_ble_eq_true rfl) (fun p e s m below meth c ls A hx hb hml hown hts hr hlocks hP hN hl hin hD hA hS => ?_)
  have hin : meth.name = _ := hin
  have hK := hN.1
  replace hl : lv_has ls 4 [(0, .ref qm), (1, .int iA), (2, .int iB), (3, .int iC)] := hl
  refine lv_iload_n hx hb dX6_rule_0 rfl (lv_at hl 1 rfl) ?_
  refine lv_i2l (v := iA.toInt64) hx hb dX6_rule_1 rfl ?_
  refine lv_lconst (v := 0) hx hb dX6_rule_2 (by decide) ?_
  refine lv_ldc2 hx hb hown (hts _ m_t960) dX6_rule_3 ?_
  refine kRi (rS (As := [.long iA.toInt64, .long 0, .long 7]) (rest := []) ⟨hx, hb, hml, hown, hts⟩ (c_X6_in l G cy iA.toInt64 0 7) L_X6_74 (preRS hN hP [] rfl) rfl ⟨Nat.le_of_ble_eq_true rfl, Nat.le_of_ble_eq_true rfl⟩ hl.1 (Nat.le_of_ble_eq_true rfl) dX6_rule_6 ⟨Nat.le_of_ble_eq_true rfl, Nat.le_of_ble_eq_true rfl⟩) (fun r_1 h_2 => ?_)
  rcases h_2 with ⟨rfl, h_3⟩ | ⟨rfl, h_3⟩
  · obtain ⟨k_4, hk_5, hk_6, rfl⟩ := iv_nI 0 7 (by decide) (by decide) h_3
    refine lv_if_eq (tgt := 36) hx hb dX6_rule_9 (by decide) (fun h9 => absurd h9 (by decide)) (fun _ => ?_)
    refine lv_iload_n hx hb dX6_rule_12 rfl (lv_at hl 2 rfl) ?_
    refine lv_i2l (v := iB.toInt64) hx hb dX6_rule_13 rfl ?_
    refine lv_lconst (v := 1) hx hb dX6_rule_14 (by decide) ?_
    refine lv_ldc2 hx hb hown (hts _ m_t997) dX6_rule_15 ?_
    refine kRi (rS (As := [.long iB.toInt64, .long 1, .long 6]) (rest := []) ⟨hx, hb, hml, hown, hts⟩ (c_X6_in l G cy iB.toInt64 1 6) L_X6_74 (preRS hN hP [] rfl) rfl ⟨Nat.le_of_ble_eq_true rfl, Nat.le_of_ble_eq_true rfl⟩ hl.1 (Nat.le_of_ble_eq_true rfl) dX6_rule_18 ⟨Nat.le_of_ble_eq_true rfl, Nat.le_of_ble_eq_true rfl⟩) (fun r_8 h_9 => ?_)
    rcases h_9 with ⟨rfl, h_10⟩ | ⟨rfl, h_10⟩
    · refine lv_if_eq (tgt := 36) hx hb dX6_rule_21 (by decide) (fun h9 => absurd h9 (by decide)) (fun _ => ?_)
      refine lv_iload_n hx hb dX6_rule_24 rfl (lv_at hl 3 rfl) ?_
      refine lv_i2l (v := iC.toInt64) hx hb dX6_rule_25 rfl ?_
      refine lv_lconst (v := 0) hx hb dX6_rule_26 (by decide) ?_
      refine lv_ldc2 hx hb hown (hts _ m_t998) dX6_rule_27 ?_
      refine kRi (rS (As := [.long iC.toInt64, .long 0, .long 99]) (rest := []) ⟨hx, hb, hml, hown, hts⟩ (c_X6_in l G cy iC.toInt64 0 99) L_X6_74 (preRS hN hP [] rfl) rfl ⟨Nat.le_of_ble_eq_true rfl, Nat.le_of_ble_eq_true rfl⟩ hl.1 (Nat.le_of_ble_eq_true rfl) dX6_rule_30 ⟨Nat.le_of_ble_eq_true rfl, Nat.le_of_ble_eq_true rfl⟩) (fun r_12 h_13 => ?_)
      rcases h_13 with ⟨rfl, h_14⟩ | ⟨rfl, h_14⟩
      · refine lv_if_ne (tgt := 43) hx hb dX6_rule_33 (by decide) (fun _ => ?_) (fun h9 => absurd h9 (by decide))
        refine lv_aload_n hx hb dX6_rule_43 rfl (lv_at hl 0 rfl) ?_
        refine va_get (D := G) (ci := 5) (v := .ref qmh) (C := RX6) (T := TX6) (N := 35) hx hb hts iX_X6 hown hK hP 0 rfl rfl 0 (by decide) (hts _ m_t850) (fun _ h9 => h9) rfl dX6_rule_44 ?_
        refine lv_iload_n hx hb dX6_rule_47 rfl (lv_at hl 1 rfl) ?_
        refine lv_iconst (v := 2) hx hb dX6_rule_48 (by decide) ?_
        refine va_iast hx hb hK hP hD hS 1 0 rfl rfl (in_shelf h_3) dX6_rule_49 (fun H locs => ?_)
        clear hP hD hS
        intro hP hD hS
        rw [cl8 (k := k_4) (by omega)] at hP hD
        have hPD := pd_as [zzO qm 5 [.ref qmh, .ref qmo, .ref qmz, .ref qmR, .ref qmv, .ref qmk, .ref qma, .ref qmt, .int (nI kZ), .ref qmr, .int (nI (T_nb tA)), .ref qmB, .int (nI (T_np tA)), .ref qmO, .ref qmK, .int iEn, .int iTk, .int (T_sd tA), ov uP, ov uU, .int (nI kAt), .int iTo, .int iFr, .long JFi, .int iFa, .ref qm3, .int iSt, .int iLv, .int iWs, vLa, .ref qmu, .ref qmy, .ref qmb, .ref qms, .int iOm], zzI cy qmh 8 (upd fMh k_4 2), zzI cy qmk 8 fMk, zzI cy qma 8 fMa, zzI cy qmr 8 fMr] hP hD rfl
        clear hP hD
        obtain ⟨hP, hD⟩ := hPD
        refine lv_aload_n hx hb dX6_rule_50 rfl (lv_at hl 0 rfl) ?_
        refine va_get (D := G) (ci := 5) (v := .ref qmk) (C := RX6) (T := TX6) (N := 35) hx hb hts iX_X6 hown hK hP 0 rfl rfl 5 (by decide) (hts _ m_t855) (fun _ h9 => h9) rfl dX6_rule_51 ?_
        refine lv_iload_n hx hb dX6_rule_54 rfl (lv_at hl 1 rfl) ?_
        refine lv_iload_n hx hb dX6_rule_55 rfl (lv_at hl 2 rfl) ?_
        refine va_iast hx hb hK hP hD hS 2 0 rfl rfl (in_shelf h_3) dX6_rule_56 (fun H locs => ?_)
        clear hP hD hS
        intro hP hD hS
        rw [cl8 (k := k_4) (by omega)] at hP hD
        have hPD := pd_as [zzO qm 5 [.ref qmh, .ref qmo, .ref qmz, .ref qmR, .ref qmv, .ref qmk, .ref qma, .ref qmt, .int (nI kZ), .ref qmr, .int (nI (T_nb tA)), .ref qmB, .int (nI (T_np tA)), .ref qmO, .ref qmK, .int iEn, .int iTk, .int (T_sd tA), ov uP, ov uU, .int (nI kAt), .int iTo, .int iFr, .long JFi, .int iFa, .ref qm3, .int iSt, .int iLv, .int iWs, vLa, .ref qmu, .ref qmy, .ref qmb, .ref qms, .int iOm], zzI cy qmh 8 (upd fMh k_4 2), zzI cy qmk 8 (upd fMk k_4 iB), zzI cy qma 8 fMa, zzI cy qmr 8 fMr] hP hD rfl
        clear hP hD
        obtain ⟨hP, hD⟩ := hPD
        refine lv_aload_n hx hb dX6_rule_57 rfl (lv_at hl 0 rfl) ?_
        refine va_get (D := G) (ci := 5) (v := .ref qma) (C := RX6) (T := TX6) (N := 35) hx hb hts iX_X6 hown hK hP 0 rfl rfl 6 (by decide) (hts _ m_t856) (fun _ h9 => h9) rfl dX6_rule_58 ?_
        refine lv_iload_n hx hb dX6_rule_61 rfl (lv_at hl 1 rfl) ?_
        refine lv_iload_n hx hb dX6_rule_62 rfl (lv_at hl 3 rfl) ?_
        refine va_iast hx hb hK hP hD hS 3 0 rfl rfl (in_shelf h_3) dX6_rule_63 (fun H locs => ?_)
        clear hP hD hS
        intro hP hD hS
        rw [cl8 (k := k_4) (by omega)] at hP hD
        have hPD := pd_as [zzO qm 5 [.ref qmh, .ref qmo, .ref qmz, .ref qmR, .ref qmv, .ref qmk, .ref qma, .ref qmt, .int (nI kZ), .ref qmr, .int (nI (T_nb tA)), .ref qmB, .int (nI (T_np tA)), .ref qmO, .ref qmK, .int iEn, .int iTk, .int (T_sd tA), ov uP, ov uU, .int (nI kAt), .int iTo, .int iFr, .long JFi, .int iFa, .ref qm3, .int iSt, .int iLv, .int iWs, vLa, .ref qmu, .ref qmy, .ref qmb, .ref qms, .int iOm], zzI cy qmh 8 (upd fMh k_4 2), zzI cy qmk 8 (upd fMk k_4 iB), zzI cy qma 8 (upd fMa k_4 iC), zzI cy qmr 8 fMr] hP hD rfl
        clear hP hD
        obtain ⟨hP, hD⟩ := hPD
        refine lv_iconst (v := 1) hx hb dX6_rule_64 (by decide) ?_
        exact endW (u := [zzO qm 5 [.ref qmh, .ref qmo, .ref qmz, .ref qmR, .ref qmv, .ref qmk, .ref qma, .ref qmt, .int (nI kZ), .ref qmr, .int (nI (T_nb tA)), .ref qmB, .int (nI (T_np tA)), .ref qmO, .ref qmK, .int iEn, .int iTk, .int (T_sd tA), ov uP, ov uU, .int (nI kAt), .int iTo, .int iFr, .long JFi, .int iFa, .ref qm3, .int iSt, .int iLv, .int iWs, vLa, .ref qmu, .ref qmy, .ref qmb, .ref qms, .int iOm], zzI cy qmh 8 (upd fMh k_4 2), zzI cy qmk 8 (upd fMk k_4 iB), zzI cy qma 8 (upd fMa k_4 iC), zzI cy qmr 8 fMr]) hx hb hr hlocks rfl (hP.sub [0, 1, 2, 3, 4] rfl) (hD.sub [0, 1, 2, 3, 4] (by decide +kernel) rfl) hS ⟨(upd fMh k_4 2), (upd fMk k_4 iB), (upd fMa k_4 iC), fMr, rfl, Or.inr ⟨rfl, k_4, by omega, rfl, h_10, h_14, rfl, rfl, rfl⟩, trivial⟩ dX6_rule_65
      · refine lv_if_ne (tgt := 43) hx hb dX6_rule_33 (by decide) (fun h9 => absurd (by decide) h9) (fun _ => ?_)
        refine lv_aload_n hx hb dX6_rule_36 rfl (lv_at hl 0 rfl) ?_
        refine lv_bipush (v := (-2)) hx hb dX6_rule_37 (by decide) ?_
        refine cVi (As := [.int (-2)]) (rest := []) (b := qm) (q := (RX6, TX6, 35)) ⟨hx, hb, hml, hown, hts⟩ (c_X6_refuse2 l G cy (s.heap).size qm (.ref qmh) (.ref qmo) (.ref qmz) (.ref qmR) (.ref qmv) (.ref qmk) (.ref qma) (.ref qmt) (.int (nI kZ)) qmr tA qmB qmO qmK iEn iTk (ov uP) (ov uU) (.int (nI kAt)) (.int iTo) (.int iFr) (.long JFi) (.int iFa) (.ref qm3) (.int iSt) iLv iWs vLa (.ref qmu) (.ref qmy) (.ref qmb) (.ref qms) (.int iOm) fMr) L_X6_91 hN hP hD hS hA [0, 4] [false, true, true, true, false] rfl (by decide +kernel) rfl 0 5 rfl rfl rfl ⟨Nat.le_of_ble_eq_true rfl, Nat.le_of_ble_eq_true rfl⟩ hl.1 (Nat.le_of_ble_eq_true rfl) dX6_rule_39 ⟨Nat.le_of_ble_eq_true rfl, Nat.le_of_ble_eq_true rfl⟩ (fun r_17 u_19 H locs h_18 => ?_)
        clear hP hD hS
        intro hP hD hS
        obtain ⟨fX_20, rfl, h_18⟩ := h_18
        have hPD := pd_as [zzI cy qmh 8 fMh, zzI cy qmk 8 fMk, zzI cy qma 8 fMa, zzO qm 5 [.ref qmh, .ref qmo, .ref qmz, .ref qmR, .ref qmv, .ref qmk, .ref qma, .ref qmt, .int (nI kZ), .ref qmr, .int (nI (T_nb tA)), .ref qmB, .int (nI (T_np tA)), .ref qmO, .ref qmK, .int iEn, .int iTk, .int (T_sd tA), ov uP, ov uU, .int (nI kAt), .int iTo, .int iFr, .long JFi, .int iFa, .ref qm3, .int iSt, .int iLv, .int iWs, vLa, .ref qmu, .ref qmy, .ref qmb, .ref qms, .int iOm], zzI cy qmr 8 fX_20] hP hD rfl
        clear hP hD
        obtain ⟨hP, hD⟩ := hPD
        subst h_18
        exact endW (u := [zzO qm 5 [.ref qmh, .ref qmo, .ref qmz, .ref qmR, .ref qmv, .ref qmk, .ref qma, .ref qmt, .int (nI kZ), .ref qmr, .int (nI (T_nb tA)), .ref qmB, .int (nI (T_np tA)), .ref qmO, .ref qmK, .int iEn, .int iTk, .int (T_sd tA), ov uP, ov uU, .int (nI kAt), .int iTo, .int iFr, .long JFi, .int iFa, .ref qm3, .int iSt, .int iLv, .int iWs, vLa, .ref qmu, .ref qmy, .ref qmb, .ref qms, .int iOm], zzI cy qmh 8 fMh, zzI cy qmk 8 fMk, zzI cy qma 8 fMa, zzI cy qmr 8 fX_20]) hx hb hr hlocks rfl (hP.sub [3, 0, 1, 2, 4] rfl) (hD.sub [3, 0, 1, 2, 4] (by decide +kernel) rfl) hS ⟨fMh, fMk, fMa, fX_20, rfl, Or.inl ⟨rfl, (fun q => h_14 q.2.2), rfl, rfl, rfl⟩, trivial⟩ dX6_rule_42
    · refine lv_if_eq (tgt := 36) hx hb dX6_rule_21 (by decide) (fun _ => ?_) (fun h9 => absurd (by decide) h9)
      refine lv_aload_n hx hb dX6_rule_36 rfl (lv_at hl 0 rfl) ?_
      refine lv_bipush (v := (-2)) hx hb dX6_rule_37 (by decide) ?_
      refine cVi (As := [.int (-2)]) (rest := []) (b := qm) (q := (RX6, TX6, 35)) ⟨hx, hb, hml, hown, hts⟩ (c_X6_refuse2 l G cy (s.heap).size qm (.ref qmh) (.ref qmo) (.ref qmz) (.ref qmR) (.ref qmv) (.ref qmk) (.ref qma) (.ref qmt) (.int (nI kZ)) qmr tA qmB qmO qmK iEn iTk (ov uP) (ov uU) (.int (nI kAt)) (.int iTo) (.int iFr) (.long JFi) (.int iFa) (.ref qm3) (.int iSt) iLv iWs vLa (.ref qmu) (.ref qmy) (.ref qmb) (.ref qms) (.int iOm) fMr) L_X6_91 hN hP hD hS hA [0, 4] [false, true, true, true, false] rfl (by decide +kernel) rfl 0 5 rfl rfl rfl ⟨Nat.le_of_ble_eq_true rfl, Nat.le_of_ble_eq_true rfl⟩ hl.1 (Nat.le_of_ble_eq_true rfl) dX6_rule_39 ⟨Nat.le_of_ble_eq_true rfl, Nat.le_of_ble_eq_true rfl⟩ (fun r_22 u_24 H locs h_23 => ?_)
      clear hP hD hS
      intro hP hD hS
      obtain ⟨fX_25, rfl, h_23⟩ := h_23
      have hPD := pd_as [zzI cy qmh 8 fMh, zzI cy qmk 8 fMk, zzI cy qma 8 fMa, zzO qm 5 [.ref qmh, .ref qmo, .ref qmz, .ref qmR, .ref qmv, .ref qmk, .ref qma, .ref qmt, .int (nI kZ), .ref qmr, .int (nI (T_nb tA)), .ref qmB, .int (nI (T_np tA)), .ref qmO, .ref qmK, .int iEn, .int iTk, .int (T_sd tA), ov uP, ov uU, .int (nI kAt), .int iTo, .int iFr, .long JFi, .int iFa, .ref qm3, .int iSt, .int iLv, .int iWs, vLa, .ref qmu, .ref qmy, .ref qmb, .ref qms, .int iOm], zzI cy qmr 8 fX_25] hP hD rfl
      clear hP hD
      obtain ⟨hP, hD⟩ := hPD
      subst h_23
      exact endW (u := [zzO qm 5 [.ref qmh, .ref qmo, .ref qmz, .ref qmR, .ref qmv, .ref qmk, .ref qma, .ref qmt, .int (nI kZ), .ref qmr, .int (nI (T_nb tA)), .ref qmB, .int (nI (T_np tA)), .ref qmO, .ref qmK, .int iEn, .int iTk, .int (T_sd tA), ov uP, ov uU, .int (nI kAt), .int iTo, .int iFr, .long JFi, .int iFa, .ref qm3, .int iSt, .int iLv, .int iWs, vLa, .ref qmu, .ref qmy, .ref qmb, .ref qms, .int iOm], zzI cy qmh 8 fMh, zzI cy qmk 8 fMk, zzI cy qma 8 fMa, zzI cy qmr 8 fX_25]) hx hb hr hlocks rfl (hP.sub [3, 0, 1, 2, 4] rfl) (hD.sub [3, 0, 1, 2, 4] (by decide +kernel) rfl) hS ⟨fMh, fMk, fMa, fX_25, rfl, Or.inl ⟨rfl, (fun q => h_10 q.2.1), rfl, rfl, rfl⟩, trivial⟩ dX6_rule_42
  · refine lv_if_eq (tgt := 36) hx hb dX6_rule_9 (by decide) (fun _ => ?_) (fun h9 => absurd (by decide) h9)
    refine lv_aload_n hx hb dX6_rule_36 rfl (lv_at hl 0 rfl) ?_
    refine lv_bipush (v := (-2)) hx hb dX6_rule_37 (by decide) ?_
    refine cVi (As := [.int (-2)]) (rest := []) (b := qm) (q := (RX6, TX6, 35)) ⟨hx, hb, hml, hown, hts⟩ (c_X6_refuse2 l G cy (s.heap).size qm (.ref qmh) (.ref qmo) (.ref qmz) (.ref qmR) (.ref qmv) (.ref qmk) (.ref qma) (.ref qmt) (.int (nI kZ)) qmr tA qmB qmO qmK iEn iTk (ov uP) (ov uU) (.int (nI kAt)) (.int iTo) (.int iFr) (.long JFi) (.int iFa) (.ref qm3) (.int iSt) iLv iWs vLa (.ref qmu) (.ref qmy) (.ref qmb) (.ref qms) (.int iOm) fMr) L_X6_91 hN hP hD hS hA [0, 4] [false, true, true, true, false] rfl (by decide +kernel) rfl 0 5 rfl rfl rfl ⟨Nat.le_of_ble_eq_true rfl, Nat.le_of_ble_eq_true rfl⟩ hl.1 (Nat.le_of_ble_eq_true rfl) dX6_rule_39 ⟨Nat.le_of_ble_eq_true rfl, Nat.le_of_ble_eq_true rfl⟩ (fun r_27 u_29 H locs h_28 => ?_)
    clear hP hD hS
    intro hP hD hS
    obtain ⟨fX_30, rfl, h_28⟩ := h_28
    have hPD := pd_as [zzI cy qmh 8 fMh, zzI cy qmk 8 fMk, zzI cy qma 8 fMa, zzO qm 5 [.ref qmh, .ref qmo, .ref qmz, .ref qmR, .ref qmv, .ref qmk, .ref qma, .ref qmt, .int (nI kZ), .ref qmr, .int (nI (T_nb tA)), .ref qmB, .int (nI (T_np tA)), .ref qmO, .ref qmK, .int iEn, .int iTk, .int (T_sd tA), ov uP, ov uU, .int (nI kAt), .int iTo, .int iFr, .long JFi, .int iFa, .ref qm3, .int iSt, .int iLv, .int iWs, vLa, .ref qmu, .ref qmy, .ref qmb, .ref qms, .int iOm], zzI cy qmr 8 fX_30] hP hD rfl
    clear hP hD
    obtain ⟨hP, hD⟩ := hPD
    subst h_28
    exact endW (u := [zzO qm 5 [.ref qmh, .ref qmo, .ref qmz, .ref qmR, .ref qmv, .ref qmk, .ref qma, .ref qmt, .int (nI kZ), .ref qmr, .int (nI (T_nb tA)), .ref qmB, .int (nI (T_np tA)), .ref qmO, .ref qmK, .int iEn, .int iTk, .int (T_sd tA), ov uP, ov uU, .int (nI kAt), .int iTo, .int iFr, .long JFi, .int iFa, .ref qm3, .int iSt, .int iLv, .int iWs, vLa, .ref qmu, .ref qmy, .ref qmb, .ref qms, .int iOm], zzI cy qmh 8 fMh, zzI cy qmk 8 fMk, zzI cy qma 8 fMa, zzI cy qmr 8 fX_30]) hx hb hr hlocks rfl (hP.sub [3, 0, 1, 2, 4] rfl) (hD.sub [3, 0, 1, 2, 4] (by decide +kernel) rfl) hS ⟨fMh, fMk, fMa, fX_30, rfl, Or.inl ⟨rfl, (fun q => no_of7 h_3 q.1), rfl, rfl, rfl⟩, trivial⟩ dX6_rule_42
