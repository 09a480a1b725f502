theorem dM_expression_0 : decode prog_9_method_17_code 0 = .ok (.aload_n 0, 1) := by decide +kernel
theorem dM_expression_1 : decode prog_9_method_17_code 1 = .ok (.iconst 0, 1) := by decide +kernel
theorem dM_expression_2 : decode prog_9_method_17_code 2 = .ok (.putfield 176, 3) := by decide +kernel
theorem dM_expression_5 : decode prog_9_method_17_code 5 = .ok (.iload_n 1, 1) := by decide +kernel
theorem dM_expression_6 : decode prog_9_method_17_code 6 = .ok (.ifCond .ne 13, 3) := by decide +kernel
theorem dM_expression_9 : decode prog_9_method_17_code 9 = .ok (.iload_n 2, 1) := by decide +kernel
theorem dM_expression_10 : decode prog_9_method_17_code 10 = .ok (.iconst 0, 1) := by decide +kernel
theorem dM_expression_11 : decode prog_9_method_17_code 11 = .ok (.bipush 15, 2) := by decide +kernel
theorem dM_expression_13 : decode prog_9_method_17_code 13 = .ok (.invokestatic 179, 3) := by decide +kernel
theorem dM_expression_16 : decode prog_9_method_17_code 16 = .ok (.ifCond .ne 120, 3) := by decide +kernel
theorem dM_expression_19 : decode prog_9_method_17_code 19 = .ok (.iload_n 1, 1) := by decide +kernel
theorem dM_expression_20 : decode prog_9_method_17_code 20 = .ok (.iconst 1, 1) := by decide +kernel
theorem dM_expression_21 : decode prog_9_method_17_code 21 = .ok (.if_icmp .ne 21, 3) := by decide +kernel
theorem dM_expression_24 : decode prog_9_method_17_code 24 = .ok (.iload_n 2, 1) := by decide +kernel
theorem dM_expression_25 : decode prog_9_method_17_code 25 = .ok (.iconst 0, 1) := by decide +kernel
theorem dM_expression_26 : decode prog_9_method_17_code 26 = .ok (.bipush 15, 2) := by decide +kernel
theorem dM_expression_28 : decode prog_9_method_17_code 28 = .ok (.invokestatic 179, 3) := by decide +kernel
theorem dM_expression_31 : decode prog_9_method_17_code 31 = .ok (.ifCond .eq 11, 3) := by decide +kernel
theorem dM_expression_34 : decode prog_9_method_17_code 34 = .ok (.aload_n 0, 1) := by decide +kernel
theorem dM_expression_35 : decode prog_9_method_17_code 35 = .ok (.iload_n 3, 1) := by decide +kernel
theorem dM_expression_36 : decode prog_9_method_17_code 36 = .ok (.invokevirtual 217, 3) := by decide +kernel
theorem dM_expression_39 : decode prog_9_method_17_code 39 = .ok (.ifCond .ne 97, 3) := by decide +kernel
theorem dM_expression_42 : decode prog_9_method_17_code 42 = .ok (.iload_n 1, 1) := by decide +kernel
theorem dM_expression_43 : decode prog_9_method_17_code 43 = .ok (.iconst 2, 1) := by decide +kernel
theorem dM_expression_44 : decode prog_9_method_17_code 44 = .ok (.if_icmp .ne 19, 3) := by decide +kernel
theorem dM_expression_47 : decode prog_9_method_17_code 47 = .ok (.aload_n 0, 1) := by decide +kernel
theorem dM_expression_48 : decode prog_9_method_17_code 48 = .ok (.iload_n 2, 1) := by decide +kernel
theorem dM_expression_49 : decode prog_9_method_17_code 49 = .ok (.invokevirtual 217, 3) := by decide +kernel
theorem dM_expression_52 : decode prog_9_method_17_code 52 = .ok (.ifCond .eq 11, 3) := by decide +kernel
theorem dM_expression_55 : decode prog_9_method_17_code 55 = .ok (.aload_n 0, 1) := by decide +kernel
theorem dM_expression_56 : decode prog_9_method_17_code 56 = .ok (.iload_n 3, 1) := by decide +kernel
theorem dM_expression_57 : decode prog_9_method_17_code 57 = .ok (.invokevirtual 217, 3) := by decide +kernel
theorem dM_expression_60 : decode prog_9_method_17_code 60 = .ok (.ifCond .ne 76, 3) := by decide +kernel
theorem dM_expression_63 : decode prog_9_method_17_code 63 = .ok (.iload_n 1, 1) := by decide +kernel
theorem dM_expression_64 : decode prog_9_method_17_code 64 = .ok (.iconst 3, 1) := by decide +kernel
theorem dM_expression_65 : decode prog_9_method_17_code 65 = .ok (.if_icmp .ne 30, 3) := by decide +kernel
theorem dM_expression_68 : decode prog_9_method_17_code 68 = .ok (.iload_n 2, 1) := by decide +kernel
theorem dM_expression_69 : decode prog_9_method_17_code 69 = .ok (.iconst 0, 1) := by decide +kernel
theorem dM_expression_70 : decode prog_9_method_17_code 70 = .ok (.bipush 15, 2) := by decide +kernel
theorem dM_expression_72 : decode prog_9_method_17_code 72 = .ok (.invokestatic 179, 3) := by decide +kernel
theorem dM_expression_75 : decode prog_9_method_17_code 75 = .ok (.ifCond .eq 20, 3) := by decide +kernel
theorem dM_expression_78 : decode prog_9_method_17_code 78 = .ok (.aload_n 0, 1) := by decide +kernel
theorem dM_expression_79 : decode prog_9_method_17_code 79 = .ok (.iload_n 3, 1) := by decide +kernel
theorem dM_expression_80 : decode prog_9_method_17_code 80 = .ok (.invokevirtual 217, 3) := by decide +kernel
theorem dM_expression_83 : decode prog_9_method_17_code 83 = .ok (.ifCond .eq 12, 3) := by decide +kernel
theorem dM_expression_86 : decode prog_9_method_17_code 86 = .ok (.aload_n 0, 1) := by decide +kernel
theorem dM_expression_87 : decode prog_9_method_17_code 87 = .ok (.iload 4, 2) := by decide +kernel
theorem dM_expression_89 : decode prog_9_method_17_code 89 = .ok (.invokevirtual 217, 3) := by decide +kernel
theorem dM_expression_92 : decode prog_9_method_17_code 92 = .ok (.ifCond .ne 44, 3) := by decide +kernel
theorem dM_expression_95 : decode prog_9_method_17_code 95 = .ok (.iload_n 1, 1) := by decide +kernel
theorem dM_expression_96 : decode prog_9_method_17_code 96 = .ok (.iconst 4, 1) := by decide +kernel
theorem dM_expression_97 : decode prog_9_method_17_code 97 = .ok (.if_icmp .ne 20, 3) := by decide +kernel
theorem dM_expression_100 : decode prog_9_method_17_code 100 = .ok (.aload_n 0, 1) := by decide +kernel
theorem dM_expression_101 : decode prog_9_method_17_code 101 = .ok (.iload_n 2, 1) := by decide +kernel
theorem dM_expression_102 : decode prog_9_method_17_code 102 = .ok (.invokevirtual 193, 3) := by decide +kernel
theorem dM_expression_105 : decode prog_9_method_17_code 105 = .ok (.ifCond .eq 12, 3) := by decide +kernel
theorem dM_expression_108 : decode prog_9_method_17_code 108 = .ok (.aload_n 0, 1) := by decide +kernel
theorem dM_expression_109 : decode prog_9_method_17_code 109 = .ok (.getfield 32, 3) := by decide +kernel
theorem dM_expression_112 : decode prog_9_method_17_code 112 = .ok (.iload_n 2, 1) := by decide +kernel
theorem dM_expression_113 : decode prog_9_method_17_code 113 = .ok (.iaload, 1) := by decide +kernel
theorem dM_expression_114 : decode prog_9_method_17_code 114 = .ok (.ifCond .ge 22, 3) := by decide +kernel
theorem dM_expression_117 : decode prog_9_method_17_code 117 = .ok (.iload_n 1, 1) := by decide +kernel
theorem dM_expression_118 : decode prog_9_method_17_code 118 = .ok (.iconst 5, 1) := by decide +kernel
theorem dM_expression_119 : decode prog_9_method_17_code 119 = .ok (.if_icmp .ne 21, 3) := by decide +kernel
theorem dM_expression_122 : decode prog_9_method_17_code 122 = .ok (.iload_n 2, 1) := by decide +kernel
theorem dM_expression_123 : decode prog_9_method_17_code 123 = .ok (.iconst 0, 1) := by decide +kernel
theorem dM_expression_124 : decode prog_9_method_17_code 124 = .ok (.aload_n 0, 1) := by decide +kernel
theorem dM_expression_125 : decode prog_9_method_17_code 125 = .ok (.getfield 183, 3) := by decide +kernel
theorem dM_expression_128 : decode prog_9_method_17_code 128 = .ok (.iconst 1, 1) := by decide +kernel
theorem dM_expression_129 : decode prog_9_method_17_code 129 = .ok (.isub, 1) := by decide +kernel
theorem dM_expression_130 : decode prog_9_method_17_code 130 = .ok (.invokestatic 179, 3) := by decide +kernel
theorem dM_expression_133 : decode prog_9_method_17_code 133 = .ok (.ifCond .eq 7, 3) := by decide +kernel
theorem dM_expression_136 : decode prog_9_method_17_code 136 = .ok (.iconst 1, 1) := by decide +kernel
theorem dM_expression_137 : decode prog_9_method_17_code 137 = .ok (.goto 4, 3) := by decide +kernel
theorem dM_expression_140 : decode prog_9_method_17_code 140 = .ok (.iconst 0, 1) := by decide +kernel
theorem dM_expression_141 : decode prog_9_method_17_code 141 = .ok (.istore 5, 2) := by decide +kernel
theorem dM_expression_143 : decode prog_9_method_17_code 143 = .ok (.iload 5, 2) := by decide +kernel
theorem dM_expression_145 : decode prog_9_method_17_code 145 = .ok (.ifCond .ne 5, 3) := by decide +kernel
theorem dM_expression_148 : decode prog_9_method_17_code 148 = .ok (.iconst (-1), 1) := by decide +kernel
theorem dM_expression_149 : decode prog_9_method_17_code 149 = .ok (.ireturn, 1) := by decide +kernel
theorem dM_expression_150 : decode prog_9_method_17_code 150 = .ok (.aload_n 0, 1) := by decide +kernel
theorem dM_expression_151 : decode prog_9_method_17_code 151 = .ok (.getfield 214, 3) := by decide +kernel
theorem dM_expression_154 : decode prog_9_method_17_code 154 = .ok (.bipush 120, 2) := by decide +kernel
theorem dM_expression_156 : decode prog_9_method_17_code 156 = .ok (.if_icmp .ne 6, 3) := by decide +kernel
theorem dM_expression_159 : decode prog_9_method_17_code 159 = .ok (.bipush (-3), 2) := by decide +kernel
theorem dM_expression_161 : decode prog_9_method_17_code 161 = .ok (.ireturn, 1) := by decide +kernel
theorem dM_expression_162 : decode prog_9_method_17_code 162 = .ok (.aload_n 0, 1) := by decide +kernel
theorem dM_expression_163 : decode prog_9_method_17_code 163 = .ok (.getfield 214, 3) := by decide +kernel
theorem dM_expression_166 : decode prog_9_method_17_code 166 = .ok (.istore 6, 2) := by decide +kernel
theorem dM_expression_168 : decode prog_9_method_17_code 168 = .ok (.aload_n 0, 1) := by decide +kernel
theorem dM_expression_169 : decode prog_9_method_17_code 169 = .ok (.getfield 45, 3) := by decide +kernel
theorem dM_expression_172 : decode prog_9_method_17_code 172 = .ok (.iload 6, 2) := by decide +kernel
theorem dM_expression_174 : decode prog_9_method_17_code 174 = .ok (.iload_n 1, 1) := by decide +kernel
theorem dM_expression_175 : decode prog_9_method_17_code 175 = .ok (.iastore, 1) := by decide +kernel
theorem dM_expression_176 : decode prog_9_method_17_code 176 = .ok (.aload_n 0, 1) := by decide +kernel
theorem dM_expression_177 : decode prog_9_method_17_code 177 = .ok (.getfield 48, 3) := by decide +kernel
theorem dM_expression_180 : decode prog_9_method_17_code 180 = .ok (.iload 6, 2) := by decide +kernel
theorem dM_expression_182 : decode prog_9_method_17_code 182 = .ok (.iload_n 2, 1) := by decide +kernel
theorem dM_expression_183 : decode prog_9_method_17_code 183 = .ok (.iastore, 1) := by decide +kernel
theorem dM_expression_184 : decode prog_9_method_17_code 184 = .ok (.aload_n 0, 1) := by decide +kernel
theorem dM_expression_185 : decode prog_9_method_17_code 185 = .ok (.getfield 51, 3) := by decide +kernel
theorem dM_expression_188 : decode prog_9_method_17_code 188 = .ok (.iload 6, 2) := by decide +kernel
theorem dM_expression_190 : decode prog_9_method_17_code 190 = .ok (.iload_n 3, 1) := by decide +kernel
theorem dM_expression_191 : decode prog_9_method_17_code 191 = .ok (.iastore, 1) := by decide +kernel
theorem dM_expression_192 : decode prog_9_method_17_code 192 = .ok (.aload_n 0, 1) := by decide +kernel
theorem dM_expression_193 : decode prog_9_method_17_code 193 = .ok (.getfield 54, 3) := by decide +kernel
theorem dM_expression_196 : decode prog_9_method_17_code 196 = .ok (.iload 6, 2) := by decide +kernel
theorem dM_expression_198 : decode prog_9_method_17_code 198 = .ok (.iload 4, 2) := by decide +kernel
theorem dM_expression_200 : decode prog_9_method_17_code 200 = .ok (.iastore, 1) := by decide +kernel
theorem dM_expression_201 : decode prog_9_method_17_code 201 = .ok (.iconst 1, 1) := by decide +kernel
theorem dM_expression_202 : decode prog_9_method_17_code 202 = .ok (.istore 7, 2) := by decide +kernel
theorem dM_expression_204 : decode prog_9_method_17_code 204 = .ok (.iload_n 1, 1) := by decide +kernel
theorem dM_expression_205 : decode prog_9_method_17_code 205 = .ok (.iconst 1, 1) := by decide +kernel
theorem dM_expression_206 : decode prog_9_method_17_code 206 = .ok (.if_icmp .ne 16, 3) := by decide +kernel
theorem dM_expression_209 : decode prog_9_method_17_code 209 = .ok (.iconst 1, 1) := by decide +kernel
theorem dM_expression_210 : decode prog_9_method_17_code 210 = .ok (.aload_n 0, 1) := by decide +kernel
theorem dM_expression_211 : decode prog_9_method_17_code 211 = .ok (.getfield 57, 3) := by decide +kernel
theorem dM_expression_214 : decode prog_9_method_17_code 214 = .ok (.iload_n 3, 1) := by decide +kernel
theorem dM_expression_215 : decode prog_9_method_17_code 215 = .ok (.iaload, 1) := by decide +kernel
theorem dM_expression_216 : decode prog_9_method_17_code 216 = .ok (.iadd, 1) := by decide +kernel
theorem dM_expression_217 : decode prog_9_method_17_code 217 = .ok (.istore 7, 2) := by decide +kernel
theorem dM_expression_219 : decode prog_9_method_17_code 219 = .ok (.goto 51, 3) := by decide +kernel
theorem dM_expression_222 : decode prog_9_method_17_code 222 = .ok (.iload_n 1, 1) := by decide +kernel
theorem dM_expression_223 : decode prog_9_method_17_code 223 = .ok (.iconst 2, 1) := by decide +kernel
theorem dM_expression_224 : decode prog_9_method_17_code 224 = .ok (.if_icmp .ne 23, 3) := by decide +kernel
theorem dM_expression_227 : decode prog_9_method_17_code 227 = .ok (.iconst 1, 1) := by decide +kernel
theorem dM_expression_228 : decode prog_9_method_17_code 228 = .ok (.aload_n 0, 1) := by decide +kernel
theorem dM_expression_229 : decode prog_9_method_17_code 229 = .ok (.getfield 57, 3) := by decide +kernel
theorem dM_expression_232 : decode prog_9_method_17_code 232 = .ok (.iload_n 2, 1) := by decide +kernel
theorem dM_expression_233 : decode prog_9_method_17_code 233 = .ok (.iaload, 1) := by decide +kernel
theorem dM_expression_234 : decode prog_9_method_17_code 234 = .ok (.iadd, 1) := by decide +kernel
theorem dM_expression_235 : decode prog_9_method_17_code 235 = .ok (.aload_n 0, 1) := by decide +kernel
theorem dM_expression_236 : decode prog_9_method_17_code 236 = .ok (.getfield 57, 3) := by decide +kernel
theorem dM_expression_239 : decode prog_9_method_17_code 239 = .ok (.iload_n 3, 1) := by decide +kernel
theorem dM_expression_240 : decode prog_9_method_17_code 240 = .ok (.iaload, 1) := by decide +kernel
theorem dM_expression_241 : decode prog_9_method_17_code 241 = .ok (.iadd, 1) := by decide +kernel
theorem dM_expression_242 : decode prog_9_method_17_code 242 = .ok (.istore 7, 2) := by decide +kernel
theorem dM_expression_244 : decode prog_9_method_17_code 244 = .ok (.goto 26, 3) := by decide +kernel
theorem dM_expression_247 : decode prog_9_method_17_code 247 = .ok (.iload_n 1, 1) := by decide +kernel
theorem dM_expression_248 : decode prog_9_method_17_code 248 = .ok (.iconst 3, 1) := by decide +kernel
theorem dM_expression_249 : decode prog_9_method_17_code 249 = .ok (.if_icmp .ne 21, 3) := by decide +kernel
theorem dM_expression_252 : decode prog_9_method_17_code 252 = .ok (.iconst 1, 1) := by decide +kernel
theorem dM_expression_253 : decode prog_9_method_17_code 253 = .ok (.aload_n 0, 1) := by decide +kernel
theorem dM_expression_254 : decode prog_9_method_17_code 254 = .ok (.getfield 57, 3) := by decide +kernel
theorem dM_expression_257 : decode prog_9_method_17_code 257 = .ok (.iload_n 3, 1) := by decide +kernel
theorem dM_expression_258 : decode prog_9_method_17_code 258 = .ok (.iaload, 1) := by decide +kernel
theorem dM_expression_259 : decode prog_9_method_17_code 259 = .ok (.iadd, 1) := by decide +kernel
theorem dM_expression_260 : decode prog_9_method_17_code 260 = .ok (.aload_n 0, 1) := by decide +kernel
theorem dM_expression_261 : decode prog_9_method_17_code 261 = .ok (.getfield 57, 3) := by decide +kernel
theorem dM_expression_264 : decode prog_9_method_17_code 264 = .ok (.iload 4, 2) := by decide +kernel
theorem dM_expression_266 : decode prog_9_method_17_code 266 = .ok (.iaload, 1) := by decide +kernel
theorem dM_expression_267 : decode prog_9_method_17_code 267 = .ok (.iadd, 1) := by decide +kernel
theorem dM_expression_268 : decode prog_9_method_17_code 268 = .ok (.istore 7, 2) := by decide +kernel
theorem dM_expression_270 : decode prog_9_method_17_code 270 = .ok (.aload_n 0, 1) := by decide +kernel
theorem dM_expression_271 : decode prog_9_method_17_code 271 = .ok (.getfield 57, 3) := by decide +kernel
theorem dM_expression_274 : decode prog_9_method_17_code 274 = .ok (.iload 6, 2) := by decide +kernel
theorem dM_expression_276 : decode prog_9_method_17_code 276 = .ok (.iload 7, 2) := by decide +kernel
theorem dM_expression_278 : decode prog_9_method_17_code 278 = .ok (.bipush 25, 2) := by decide +kernel
theorem dM_expression_280 : decode prog_9_method_17_code 280 = .ok (.if_icmp .le 8, 3) := by decide +kernel
theorem dM_expression_283 : decode prog_9_method_17_code 283 = .ok (.bipush 25, 2) := by decide +kernel
theorem dM_expression_285 : decode prog_9_method_17_code 285 = .ok (.goto 5, 3) := by decide +kernel
theorem dM_expression_288 : decode prog_9_method_17_code 288 = .ok (.iload 7, 2) := by decide +kernel
theorem dM_expression_290 : decode prog_9_method_17_code 290 = .ok (.iastore, 1) := by decide +kernel
theorem dM_expression_291 : decode prog_9_method_17_code 291 = .ok (.aload_n 0, 1) := by decide +kernel
theorem dM_expression_292 : decode prog_9_method_17_code 292 = .ok (.dup, 1) := by decide +kernel
theorem dM_expression_293 : decode prog_9_method_17_code 293 = .ok (.getfield 214, 3) := by decide +kernel
theorem dM_expression_296 : decode prog_9_method_17_code 296 = .ok (.iconst 1, 1) := by decide +kernel
theorem dM_expression_297 : decode prog_9_method_17_code 297 = .ok (.iadd, 1) := by decide +kernel
theorem dM_expression_298 : decode prog_9_method_17_code 298 = .ok (.putfield 214, 3) := by decide +kernel
theorem dM_expression_301 : decode prog_9_method_17_code 301 = .ok (.iload 6, 2) := by decide +kernel
theorem dM_expression_303 : decode prog_9_method_17_code 303 = .ok (.ireturn, 1) := by decide +kernel
theorem dM_addNode_0 : decode prog_9_method_18_code 0 = .ok (.aload_n 0, 1) := by decide +kernel
theorem dM_addNode_1 : decode prog_9_method_18_code 1 = .ok (.getfield 60, 3) := by decide +kernel
theorem dM_addNode_4 : decode prog_9_method_18_code 4 = .ok (.aload_n 0, 1) := by decide +kernel
theorem dM_addNode_5 : decode prog_9_method_18_code 5 = .ok (.getfield 220, 3) := by decide +kernel
theorem dM_addNode_8 : decode prog_9_method_18_code 8 = .ok (.iload_n 1, 1) := by decide +kernel
theorem dM_addNode_9 : decode prog_9_method_18_code 9 = .ok (.iastore, 1) := by decide +kernel
theorem dM_addNode_10 : decode prog_9_method_18_code 10 = .ok (.aload_n 0, 1) := by decide +kernel
theorem dM_addNode_11 : decode prog_9_method_18_code 11 = .ok (.getfield 63, 3) := by decide +kernel
theorem dM_addNode_14 : decode prog_9_method_18_code 14 = .ok (.aload_n 0, 1) := by decide +kernel
theorem dM_addNode_15 : decode prog_9_method_18_code 15 = .ok (.getfield 220, 3) := by decide +kernel
theorem dM_addNode_18 : decode prog_9_method_18_code 18 = .ok (.iload_n 2, 1) := by decide +kernel
theorem dM_addNode_19 : decode prog_9_method_18_code 19 = .ok (.iastore, 1) := by decide +kernel
theorem dM_addNode_20 : decode prog_9_method_18_code 20 = .ok (.aload_n 0, 1) := by decide +kernel
theorem dM_addNode_21 : decode prog_9_method_18_code 21 = .ok (.getfield 66, 3) := by decide +kernel
theorem dM_addNode_24 : decode prog_9_method_18_code 24 = .ok (.aload_n 0, 1) := by decide +kernel
theorem dM_addNode_25 : decode prog_9_method_18_code 25 = .ok (.getfield 220, 3) := by decide +kernel
theorem dM_addNode_28 : decode prog_9_method_18_code 28 = .ok (.iload_n 3, 1) := by decide +kernel
theorem dM_addNode_29 : decode prog_9_method_18_code 29 = .ok (.iastore, 1) := by decide +kernel
theorem dM_addNode_30 : decode prog_9_method_18_code 30 = .ok (.aload_n 0, 1) := by decide +kernel
theorem dM_addNode_31 : decode prog_9_method_18_code 31 = .ok (.getfield 69, 3) := by decide +kernel
theorem dM_addNode_34 : decode prog_9_method_18_code 34 = .ok (.aload_n 0, 1) := by decide +kernel
theorem dM_addNode_35 : decode prog_9_method_18_code 35 = .ok (.getfield 220, 3) := by decide +kernel
theorem dM_addNode_38 : decode prog_9_method_18_code 38 = .ok (.iconst (-1), 1) := by decide +kernel
theorem dM_addNode_39 : decode prog_9_method_18_code 39 = .ok (.iastore, 1) := by decide +kernel
theorem dM_addNode_40 : decode prog_9_method_18_code 40 = .ok (.aload_n 0, 1) := by decide +kernel
theorem dM_addNode_41 : decode prog_9_method_18_code 41 = .ok (.getfield 72, 3) := by decide +kernel
theorem dM_addNode_44 : decode prog_9_method_18_code 44 = .ok (.aload_n 0, 1) := by decide +kernel
theorem dM_addNode_45 : decode prog_9_method_18_code 45 = .ok (.getfield 220, 3) := by decide +kernel
theorem dM_addNode_48 : decode prog_9_method_18_code 48 = .ok (.iconst (-1), 1) := by decide +kernel
theorem dM_addNode_49 : decode prog_9_method_18_code 49 = .ok (.iastore, 1) := by decide +kernel
theorem dM_addNode_50 : decode prog_9_method_18_code 50 = .ok (.aload_n 0, 1) := by decide +kernel
theorem dM_addNode_51 : decode prog_9_method_18_code 51 = .ok (.getfield 87, 3) := by decide +kernel
theorem dM_addNode_54 : decode prog_9_method_18_code 54 = .ok (.aload_n 0, 1) := by decide +kernel
theorem dM_addNode_55 : decode prog_9_method_18_code 55 = .ok (.getfield 220, 3) := by decide +kernel
theorem dM_addNode_58 : decode prog_9_method_18_code 58 = .ok (.iconst 0, 1) := by decide +kernel
theorem dM_addNode_59 : decode prog_9_method_18_code 59 = .ok (.iastore, 1) := by decide +kernel
theorem dM_addNode_60 : decode prog_9_method_18_code 60 = .ok (.aload_n 0, 1) := by decide +kernel
theorem dM_addNode_61 : decode prog_9_method_18_code 61 = .ok (.dup, 1) := by decide +kernel
theorem dM_addNode_62 : decode prog_9_method_18_code 62 = .ok (.getfield 220, 3) := by decide +kernel
theorem dM_addNode_65 : decode prog_9_method_18_code 65 = .ok (.iconst 1, 1) := by decide +kernel
theorem dM_addNode_66 : decode prog_9_method_18_code 66 = .ok (.iadd, 1) := by decide +kernel
theorem dM_addNode_67 : decode prog_9_method_18_code 67 = .ok (.putfield 220, 3) := by decide +kernel
theorem dM_addNode_70 : decode prog_9_method_18_code 70 = .ok (.aload_n 0, 1) := by decide +kernel
theorem dM_addNode_71 : decode prog_9_method_18_code 71 = .ok (.getfield 220, 3) := by decide +kernel
theorem dM_addNode_74 : decode prog_9_method_18_code 74 = .ok (.iconst 1, 1) := by decide +kernel
theorem dM_addNode_75 : decode prog_9_method_18_code 75 = .ok (.isub, 1) := by decide +kernel
theorem dM_addNode_76 : decode prog_9_method_18_code 76 = .ok (.ireturn, 1) := by decide +kernel
theorem dM_kindOf_0 : decode prog_9_method_19_code 0 = .ok (.aload_n 0, 1) := by decide +kernel
theorem dM_kindOf_1 : decode prog_9_method_19_code 1 = .ok (.getfield 45, 3) := by decide +kernel
theorem dM_kindOf_4 : decode prog_9_method_19_code 4 = .ok (.aload_n 0, 1) := by decide +kernel
theorem dM_kindOf_5 : decode prog_9_method_19_code 5 = .ok (.getfield 60, 3) := by decide +kernel
theorem dM_kindOf_8 : decode prog_9_method_19_code 8 = .ok (.iload_n 1, 1) := by decide +kernel
theorem dM_kindOf_9 : decode prog_9_method_19_code 9 = .ok (.iaload, 1) := by decide +kernel
theorem dM_kindOf_10 : decode prog_9_method_19_code 10 = .ok (.iaload, 1) := by decide +kernel
theorem dM_kindOf_11 : decode prog_9_method_19_code 11 = .ok (.ireturn, 1) := by decide +kernel
theorem dM_spread_0 : decode prog_9_method_20_code 0 = .ok (.aload_n 0, 1) := by decide +kernel
theorem dM_spread_1 : decode prog_9_method_20_code 1 = .ok (.iconst 0, 1) := by decide +kernel
theorem dM_spread_2 : decode prog_9_method_20_code 2 = .ok (.putfield 220, 3) := by decide +kernel
theorem dM_spread_5 : decode prog_9_method_20_code 5 = .ok (.aload_n 0, 1) := by decide +kernel
theorem dM_spread_6 : decode prog_9_method_20_code 6 = .ok (.iload_n 1, 1) := by decide +kernel
theorem dM_spread_7 : decode prog_9_method_20_code 7 = .ok (.iconst (-1), 1) := by decide +kernel
theorem dM_spread_8 : decode prog_9_method_20_code 8 = .ok (.iconst 0, 1) := by decide +kernel
theorem dM_spread_9 : decode prog_9_method_20_code 9 = .ok (.invokevirtual 223, 3) := by decide +kernel
theorem dM_spread_12 : decode prog_9_method_20_code 12 = .ok (.istore_n 2, 1) := by decide +kernel
theorem dM_spread_13 : decode prog_9_method_20_code 13 = .ok (.iload_n 2, 1) := by decide +kernel
theorem dM_spread_14 : decode prog_9_method_20_code 14 = .ok (.istore_n 3, 1) := by decide +kernel
theorem dM_spread_15 : decode prog_9_method_20_code 15 = .ok (.iload_n 3, 1) := by decide +kernel
theorem dM_spread_16 : decode prog_9_method_20_code 16 = .ok (.aload_n 0, 1) := by decide +kernel
theorem dM_spread_17 : decode prog_9_method_20_code 17 = .ok (.getfield 220, 3) := by decide +kernel
theorem dM_spread_20 : decode prog_9_method_20_code 20 = .ok (.if_icmp .ge 151, 3) := by decide +kernel
theorem dM_spread_23 : decode prog_9_method_20_code 23 = .ok (.aload_n 0, 1) := by decide +kernel
theorem dM_spread_24 : decode prog_9_method_20_code 24 = .ok (.getfield 60, 3) := by decide +kernel
theorem dM_spread_27 : decode prog_9_method_20_code 27 = .ok (.iload_n 3, 1) := by decide +kernel
theorem dM_spread_28 : decode prog_9_method_20_code 28 = .ok (.iaload, 1) := by decide +kernel
theorem dM_spread_29 : decode prog_9_method_20_code 29 = .ok (.istore 4, 2) := by decide +kernel
theorem dM_spread_31 : decode prog_9_method_20_code 31 = .ok (.aload_n 0, 1) := by decide +kernel
theorem dM_spread_32 : decode prog_9_method_20_code 32 = .ok (.getfield 45, 3) := by decide +kernel
theorem dM_spread_35 : decode prog_9_method_20_code 35 = .ok (.iload 4, 2) := by decide +kernel
theorem dM_spread_37 : decode prog_9_method_20_code 37 = .ok (.iaload, 1) := by decide +kernel
theorem dM_spread_38 : decode prog_9_method_20_code 38 = .ok (.iconst 1, 1) := by decide +kernel
theorem dM_spread_39 : decode prog_9_method_20_code 39 = .ok (.if_icmp .ne 25, 3) := by decide +kernel
theorem dM_spread_42 : decode prog_9_method_20_code 42 = .ok (.aload_n 0, 1) := by decide +kernel
theorem dM_spread_43 : decode prog_9_method_20_code 43 = .ok (.getfield 69, 3) := by decide +kernel
theorem dM_spread_46 : decode prog_9_method_20_code 46 = .ok (.iload_n 3, 1) := by decide +kernel
theorem dM_spread_47 : decode prog_9_method_20_code 47 = .ok (.aload_n 0, 1) := by decide +kernel
theorem dM_spread_48 : decode prog_9_method_20_code 48 = .ok (.aload_n 0, 1) := by decide +kernel
theorem dM_spread_49 : decode prog_9_method_20_code 49 = .ok (.getfield 51, 3) := by decide +kernel
theorem dM_spread_52 : decode prog_9_method_20_code 52 = .ok (.iload 4, 2) := by decide +kernel
theorem dM_spread_54 : decode prog_9_method_20_code 54 = .ok (.iaload, 1) := by decide +kernel
theorem dM_spread_55 : decode prog_9_method_20_code 55 = .ok (.iload_n 3, 1) := by decide +kernel
theorem dM_spread_56 : decode prog_9_method_20_code 56 = .ok (.iconst 0, 1) := by decide +kernel
theorem dM_spread_57 : decode prog_9_method_20_code 57 = .ok (.invokevirtual 223, 3) := by decide +kernel
theorem dM_spread_60 : decode prog_9_method_20_code 60 = .ok (.iastore, 1) := by decide +kernel
theorem dM_spread_61 : decode prog_9_method_20_code 61 = .ok (.goto 104, 3) := by decide +kernel
theorem dM_spread_64 : decode prog_9_method_20_code 64 = .ok (.aload_n 0, 1) := by decide +kernel
theorem dM_spread_65 : decode prog_9_method_20_code 65 = .ok (.getfield 45, 3) := by decide +kernel
theorem dM_spread_68 : decode prog_9_method_20_code 68 = .ok (.iload 4, 2) := by decide +kernel
theorem dM_spread_70 : decode prog_9_method_20_code 70 = .ok (.iaload, 1) := by decide +kernel
theorem dM_spread_71 : decode prog_9_method_20_code 71 = .ok (.iconst 2, 1) := by decide +kernel
theorem dM_spread_72 : decode prog_9_method_20_code 72 = .ok (.if_icmp .ne 44, 3) := by decide +kernel
theorem dM_spread_75 : decode prog_9_method_20_code 75 = .ok (.aload_n 0, 1) := by decide +kernel
theorem dM_spread_76 : decode prog_9_method_20_code 76 = .ok (.getfield 69, 3) := by decide +kernel
theorem dM_spread_79 : decode prog_9_method_20_code 79 = .ok (.iload_n 3, 1) := by decide +kernel
theorem dM_spread_80 : decode prog_9_method_20_code 80 = .ok (.aload_n 0, 1) := by decide +kernel
theorem dM_spread_81 : decode prog_9_method_20_code 81 = .ok (.aload_n 0, 1) := by decide +kernel
theorem dM_spread_82 : decode prog_9_method_20_code 82 = .ok (.getfield 48, 3) := by decide +kernel
theorem dM_spread_85 : decode prog_9_method_20_code 85 = .ok (.iload 4, 2) := by decide +kernel
theorem dM_spread_87 : decode prog_9_method_20_code 87 = .ok (.iaload, 1) := by decide +kernel
theorem dM_spread_88 : decode prog_9_method_20_code 88 = .ok (.iload_n 3, 1) := by decide +kernel
theorem dM_spread_89 : decode prog_9_method_20_code 89 = .ok (.iconst 0, 1) := by decide +kernel
theorem dM_spread_90 : decode prog_9_method_20_code 90 = .ok (.invokevirtual 223, 3) := by decide +kernel
theorem dM_spread_93 : decode prog_9_method_20_code 93 = .ok (.iastore, 1) := by decide +kernel
theorem dM_spread_94 : decode prog_9_method_20_code 94 = .ok (.aload_n 0, 1) := by decide +kernel
theorem dM_spread_95 : decode prog_9_method_20_code 95 = .ok (.getfield 72, 3) := by decide +kernel
theorem dM_spread_98 : decode prog_9_method_20_code 98 = .ok (.iload_n 3, 1) := by decide +kernel
theorem dM_spread_99 : decode prog_9_method_20_code 99 = .ok (.aload_n 0, 1) := by decide +kernel
theorem dM_spread_100 : decode prog_9_method_20_code 100 = .ok (.aload_n 0, 1) := by decide +kernel
theorem dM_spread_101 : decode prog_9_method_20_code 101 = .ok (.getfield 51, 3) := by decide +kernel
theorem dM_spread_104 : decode prog_9_method_20_code 104 = .ok (.iload 4, 2) := by decide +kernel
theorem dM_spread_106 : decode prog_9_method_20_code 106 = .ok (.iaload, 1) := by decide +kernel
theorem dM_spread_107 : decode prog_9_method_20_code 107 = .ok (.iload_n 3, 1) := by decide +kernel
theorem dM_spread_108 : decode prog_9_method_20_code 108 = .ok (.iconst 1, 1) := by decide +kernel
theorem dM_spread_109 : decode prog_9_method_20_code 109 = .ok (.invokevirtual 223, 3) := by decide +kernel
theorem dM_spread_112 : decode prog_9_method_20_code 112 = .ok (.iastore, 1) := by decide +kernel
theorem dM_spread_113 : decode prog_9_method_20_code 113 = .ok (.goto 52, 3) := by decide +kernel
theorem dM_spread_116 : decode prog_9_method_20_code 116 = .ok (.aload_n 0, 1) := by decide +kernel
theorem dM_spread_117 : decode prog_9_method_20_code 117 = .ok (.getfield 45, 3) := by decide +kernel
theorem dM_spread_120 : decode prog_9_method_20_code 120 = .ok (.iload 4, 2) := by decide +kernel
theorem dM_spread_122 : decode prog_9_method_20_code 122 = .ok (.iaload, 1) := by decide +kernel
theorem dM_spread_123 : decode prog_9_method_20_code 123 = .ok (.iconst 3, 1) := by decide +kernel
theorem dM_spread_124 : decode prog_9_method_20_code 124 = .ok (.if_icmp .ne 41, 3) := by decide +kernel
theorem dM_spread_127 : decode prog_9_method_20_code 127 = .ok (.aload_n 0, 1) := by decide +kernel
theorem dM_spread_128 : decode prog_9_method_20_code 128 = .ok (.getfield 69, 3) := by decide +kernel
theorem dM_spread_131 : decode prog_9_method_20_code 131 = .ok (.iload_n 3, 1) := by decide +kernel
theorem dM_spread_132 : decode prog_9_method_20_code 132 = .ok (.aload_n 0, 1) := by decide +kernel
theorem dM_spread_133 : decode prog_9_method_20_code 133 = .ok (.aload_n 0, 1) := by decide +kernel
theorem dM_spread_134 : decode prog_9_method_20_code 134 = .ok (.getfield 51, 3) := by decide +kernel
theorem dM_spread_137 : decode prog_9_method_20_code 137 = .ok (.iload 4, 2) := by decide +kernel
theorem dM_spread_139 : decode prog_9_method_20_code 139 = .ok (.iaload, 1) := by decide +kernel
theorem dM_spread_140 : decode prog_9_method_20_code 140 = .ok (.iload_n 3, 1) := by decide +kernel
theorem dM_spread_141 : decode prog_9_method_20_code 141 = .ok (.iconst 0, 1) := by decide +kernel
theorem dM_spread_142 : decode prog_9_method_20_code 142 = .ok (.invokevirtual 223, 3) := by decide +kernel
theorem dM_spread_145 : decode prog_9_method_20_code 145 = .ok (.iastore, 1) := by decide +kernel
theorem dM_spread_146 : decode prog_9_method_20_code 146 = .ok (.aload_n 0, 1) := by decide +kernel
theorem dM_spread_147 : decode prog_9_method_20_code 147 = .ok (.getfield 72, 3) := by decide +kernel
theorem dM_spread_150 : decode prog_9_method_20_code 150 = .ok (.iload_n 3, 1) := by decide +kernel
theorem dM_spread_151 : decode prog_9_method_20_code 151 = .ok (.aload_n 0, 1) := by decide +kernel
theorem dM_spread_152 : decode prog_9_method_20_code 152 = .ok (.aload_n 0, 1) := by decide +kernel
theorem dM_spread_153 : decode prog_9_method_20_code 153 = .ok (.getfield 54, 3) := by decide +kernel
theorem dM_spread_156 : decode prog_9_method_20_code 156 = .ok (.iload 4, 2) := by decide +kernel
theorem dM_spread_158 : decode prog_9_method_20_code 158 = .ok (.iaload, 1) := by decide +kernel
theorem dM_spread_159 : decode prog_9_method_20_code 159 = .ok (.iload_n 3, 1) := by decide +kernel
theorem dM_spread_160 : decode prog_9_method_20_code 160 = .ok (.iconst 1, 1) := by decide +kernel
theorem dM_spread_161 : decode prog_9_method_20_code 161 = .ok (.invokevirtual 223, 3) := by decide +kernel
theorem dM_spread_164 : decode prog_9_method_20_code 164 = .ok (.iastore, 1) := by decide +kernel
theorem dM_spread_165 : decode prog_9_method_20_code 165 = .ok (.iinc 3 1, 3) := by decide +kernel
theorem dM_spread_168 : decode prog_9_method_20_code 168 = .ok (.goto (-153), 3) := by decide +kernel
theorem dM_spread_171 : decode prog_9_method_20_code 171 = .ok (.return_, 1) := by decide +kernel
theorem dM_binder_0 : decode prog_9_method_21_code 0 = .ok (.aload_n 0, 1) := by decide +kernel
theorem dM_binder_1 : decode prog_9_method_21_code 1 = .ok (.getfield 48, 3) := by decide +kernel
theorem dM_binder_4 : decode prog_9_method_21_code 4 = .ok (.aload_n 0, 1) := by decide +kernel
theorem dM_binder_5 : decode prog_9_method_21_code 5 = .ok (.getfield 60, 3) := by decide +kernel
theorem dM_binder_8 : decode prog_9_method_21_code 8 = .ok (.iload_n 1, 1) := by decide +kernel
theorem dM_binder_9 : decode prog_9_method_21_code 9 = .ok (.iaload, 1) := by decide +kernel
theorem dM_binder_10 : decode prog_9_method_21_code 10 = .ok (.iaload, 1) := by decide +kernel
theorem dM_binder_11 : decode prog_9_method_21_code 11 = .ok (.istore_n 2, 1) := by decide +kernel
theorem dM_binder_12 : decode prog_9_method_21_code 12 = .ok (.iload_n 1, 1) := by decide +kernel
theorem dM_binder_13 : decode prog_9_method_21_code 13 = .ok (.istore_n 3, 1) := by decide +kernel
theorem dM_binder_14 : decode prog_9_method_21_code 14 = .ok (.aload_n 0, 1) := by decide +kernel
theorem dM_binder_15 : decode prog_9_method_21_code 15 = .ok (.getfield 63, 3) := by decide +kernel
theorem dM_binder_18 : decode prog_9_method_21_code 18 = .ok (.iload_n 1, 1) := by decide +kernel
theorem dM_binder_19 : decode prog_9_method_21_code 19 = .ok (.iaload, 1) := by decide +kernel
theorem dM_binder_20 : decode prog_9_method_21_code 20 = .ok (.istore 4, 2) := by decide +kernel
theorem dM_binder_22 : decode prog_9_method_21_code 22 = .ok (.iload 4, 2) := by decide +kernel
theorem dM_binder_24 : decode prog_9_method_21_code 24 = .ok (.ifCond .lt 79, 3) := by decide +kernel
theorem dM_binder_27 : decode prog_9_method_21_code 27 = .ok (.aload_n 0, 1) := by decide +kernel
theorem dM_binder_28 : decode prog_9_method_21_code 28 = .ok (.iload 4, 2) := by decide +kernel
theorem dM_binder_30 : decode prog_9_method_21_code 30 = .ok (.invokevirtual 227, 3) := by decide +kernel
theorem dM_binder_33 : decode prog_9_method_21_code 33 = .ok (.iconst 1, 1) := by decide +kernel
theorem dM_binder_34 : decode prog_9_method_21_code 34 = .ok (.if_icmp .eq 23, 3) := by decide +kernel
theorem dM_binder_37 : decode prog_9_method_21_code 37 = .ok (.aload_n 0, 1) := by decide +kernel
theorem dM_binder_38 : decode prog_9_method_21_code 38 = .ok (.iload 4, 2) := by decide +kernel
theorem dM_binder_40 : decode prog_9_method_21_code 40 = .ok (.invokevirtual 227, 3) := by decide +kernel
theorem dM_binder_43 : decode prog_9_method_21_code 43 = .ok (.iconst 3, 1) := by decide +kernel
theorem dM_binder_44 : decode prog_9_method_21_code 44 = .ok (.if_icmp .ne 17, 3) := by decide +kernel
theorem dM_binder_47 : decode prog_9_method_21_code 47 = .ok (.aload_n 0, 1) := by decide +kernel
theorem dM_binder_48 : decode prog_9_method_21_code 48 = .ok (.getfield 66, 3) := by decide +kernel
theorem dM_binder_51 : decode prog_9_method_21_code 51 = .ok (.iload_n 3, 1) := by decide +kernel
theorem dM_binder_52 : decode prog_9_method_21_code 52 = .ok (.iaload, 1) := by decide +kernel
theorem dM_binder_53 : decode prog_9_method_21_code 53 = .ok (.iconst 1, 1) := by decide +kernel
theorem dM_binder_54 : decode prog_9_method_21_code 54 = .ok (.if_icmp .ne 7, 3) := by decide +kernel
theorem dM_binder_57 : decode prog_9_method_21_code 57 = .ok (.iconst 1, 1) := by decide +kernel
theorem dM_binder_58 : decode prog_9_method_21_code 58 = .ok (.goto 4, 3) := by decide +kernel
theorem dM_binder_61 : decode prog_9_method_21_code 61 = .ok (.iconst 0, 1) := by decide +kernel
theorem dM_binder_62 : decode prog_9_method_21_code 62 = .ok (.istore 5, 2) := by decide +kernel
theorem dM_binder_64 : decode prog_9_method_21_code 64 = .ok (.iload 5, 2) := by decide +kernel
theorem dM_binder_66 : decode prog_9_method_21_code 66 = .ok (.ifCond .eq 22, 3) := by decide +kernel
theorem dM_binder_69 : decode prog_9_method_21_code 69 = .ok (.aload_n 0, 1) := by decide +kernel
theorem dM_binder_70 : decode prog_9_method_21_code 70 = .ok (.getfield 48, 3) := by decide +kernel
theorem dM_binder_73 : decode prog_9_method_21_code 73 = .ok (.aload_n 0, 1) := by decide +kernel
theorem dM_binder_74 : decode prog_9_method_21_code 74 = .ok (.getfield 60, 3) := by decide +kernel
theorem dM_binder_77 : decode prog_9_method_21_code 77 = .ok (.iload 4, 2) := by decide +kernel
theorem dM_binder_79 : decode prog_9_method_21_code 79 = .ok (.iaload, 1) := by decide +kernel
theorem dM_binder_80 : decode prog_9_method_21_code 80 = .ok (.iaload, 1) := by decide +kernel
theorem dM_binder_81 : decode prog_9_method_21_code 81 = .ok (.iload_n 2, 1) := by decide +kernel
theorem dM_binder_82 : decode prog_9_method_21_code 82 = .ok (.if_icmp .ne 6, 3) := by decide +kernel
theorem dM_binder_85 : decode prog_9_method_21_code 85 = .ok (.iload 4, 2) := by decide +kernel
theorem dM_binder_87 : decode prog_9_method_21_code 87 = .ok (.ireturn, 1) := by decide +kernel
theorem dM_binder_88 : decode prog_9_method_21_code 88 = .ok (.iload 4, 2) := by decide +kernel
theorem dM_binder_90 : decode prog_9_method_21_code 90 = .ok (.istore_n 3, 1) := by decide +kernel
theorem dM_binder_91 : decode prog_9_method_21_code 91 = .ok (.aload_n 0, 1) := by decide +kernel
theorem dM_binder_92 : decode prog_9_method_21_code 92 = .ok (.getfield 63, 3) := by decide +kernel
theorem dM_binder_95 : decode prog_9_method_21_code 95 = .ok (.iload 4, 2) := by decide +kernel
theorem dM_binder_97 : decode prog_9_method_21_code 97 = .ok (.iaload, 1) := by decide +kernel
theorem dM_binder_98 : decode prog_9_method_21_code 98 = .ok (.istore 4, 2) := by decide +kernel
theorem dM_binder_100 : decode prog_9_method_21_code 100 = .ok (.goto (-78), 3) := by decide +kernel
theorem dM_binder_103 : decode prog_9_method_21_code 103 = .ok (.iconst (-1), 1) := by decide +kernel
theorem dM_binder_104 : decode prog_9_method_21_code 104 = .ok (.ireturn, 1) := by decide +kernel
theorem dM_newTerm_0 : decode prog_9_method_22_code 0 = .ok (.aload_n 0, 1) := by decide +kernel
theorem dM_newTerm_1 : decode prog_9_method_22_code 1 = .ok (.getfield 103, 3) := by decide +kernel
theorem dM_newTerm_4 : decode prog_9_method_22_code 4 = .ok (.aload_n 0, 1) := by decide +kernel
theorem dM_newTerm_5 : decode prog_9_method_22_code 5 = .ok (.getfield 231, 3) := by decide +kernel
theorem dM_newTerm_8 : decode prog_9_method_22_code 8 = .ok (.aload_n 0, 1) := by decide +kernel
theorem dM_newTerm_9 : decode prog_9_method_22_code 9 = .ok (.getfield 231, 3) := by decide +kernel
theorem dM_newTerm_12 : decode prog_9_method_22_code 12 = .ok (.iastore, 1) := by decide +kernel
theorem dM_newTerm_13 : decode prog_9_method_22_code 13 = .ok (.aload_n 0, 1) := by decide +kernel
theorem dM_newTerm_14 : decode prog_9_method_22_code 14 = .ok (.getfield 106, 3) := by decide +kernel
theorem dM_newTerm_17 : decode prog_9_method_22_code 17 = .ok (.aload_n 0, 1) := by decide +kernel
theorem dM_newTerm_18 : decode prog_9_method_22_code 18 = .ok (.getfield 231, 3) := by decide +kernel
theorem dM_newTerm_21 : decode prog_9_method_22_code 21 = .ok (.iload_n 1, 1) := by decide +kernel
theorem dM_newTerm_22 : decode prog_9_method_22_code 22 = .ok (.iastore, 1) := by decide +kernel
theorem dM_newTerm_23 : decode prog_9_method_22_code 23 = .ok (.aload_n 0, 1) := by decide +kernel
theorem dM_newTerm_24 : decode prog_9_method_22_code 24 = .ok (.getfield 109, 3) := by decide +kernel
theorem dM_newTerm_27 : decode prog_9_method_22_code 27 = .ok (.aload_n 0, 1) := by decide +kernel
theorem dM_newTerm_28 : decode prog_9_method_22_code 28 = .ok (.getfield 231, 3) := by decide +kernel
theorem dM_newTerm_31 : decode prog_9_method_22_code 31 = .ok (.iload_n 2, 1) := by decide +kernel
theorem dM_newTerm_32 : decode prog_9_method_22_code 32 = .ok (.iastore, 1) := by decide +kernel
theorem dM_newTerm_33 : decode prog_9_method_22_code 33 = .ok (.aload_n 0, 1) := by decide +kernel
theorem dM_newTerm_34 : decode prog_9_method_22_code 34 = .ok (.getfield 112, 3) := by decide +kernel
theorem dM_newTerm_37 : decode prog_9_method_22_code 37 = .ok (.aload_n 0, 1) := by decide +kernel
theorem dM_newTerm_38 : decode prog_9_method_22_code 38 = .ok (.getfield 231, 3) := by decide +kernel
theorem dM_newTerm_41 : decode prog_9_method_22_code 41 = .ok (.iload_n 3, 1) := by decide +kernel
theorem dM_newTerm_42 : decode prog_9_method_22_code 42 = .ok (.iastore, 1) := by decide +kernel
theorem dM_newTerm_43 : decode prog_9_method_22_code 43 = .ok (.aload_n 0, 1) := by decide +kernel
theorem dM_newTerm_44 : decode prog_9_method_22_code 44 = .ok (.getfield 115, 3) := by decide +kernel
theorem dM_newTerm_47 : decode prog_9_method_22_code 47 = .ok (.aload_n 0, 1) := by decide +kernel
theorem dM_newTerm_48 : decode prog_9_method_22_code 48 = .ok (.getfield 231, 3) := by decide +kernel
theorem dM_newTerm_51 : decode prog_9_method_22_code 51 = .ok (.iconst 0, 1) := by decide +kernel
theorem dM_newTerm_52 : decode prog_9_method_22_code 52 = .ok (.iastore, 1) := by decide +kernel
theorem dM_newTerm_53 : decode prog_9_method_22_code 53 = .ok (.aload_n 0, 1) := by decide +kernel
theorem dM_newTerm_54 : decode prog_9_method_22_code 54 = .ok (.getfield 124, 3) := by decide +kernel
theorem dM_newTerm_57 : decode prog_9_method_22_code 57 = .ok (.aload_n 0, 1) := by decide +kernel
theorem dM_newTerm_58 : decode prog_9_method_22_code 58 = .ok (.getfield 231, 3) := by decide +kernel
theorem dM_newTerm_61 : decode prog_9_method_22_code 61 = .ok (.iconst 0, 1) := by decide +kernel
theorem dM_newTerm_62 : decode prog_9_method_22_code 62 = .ok (.iastore, 1) := by decide +kernel
theorem dM_newTerm_63 : decode prog_9_method_22_code 63 = .ok (.aload_n 0, 1) := by decide +kernel
theorem dM_newTerm_64 : decode prog_9_method_22_code 64 = .ok (.getfield 127, 3) := by decide +kernel
theorem dM_newTerm_67 : decode prog_9_method_22_code 67 = .ok (.aload_n 0, 1) := by decide +kernel
theorem dM_newTerm_68 : decode prog_9_method_22_code 68 = .ok (.getfield 231, 3) := by decide +kernel
theorem dM_newTerm_71 : decode prog_9_method_22_code 71 = .ok (.iconst 0, 1) := by decide +kernel
theorem dM_newTerm_72 : decode prog_9_method_22_code 72 = .ok (.iastore, 1) := by decide +kernel
theorem dM_newTerm_73 : decode prog_9_method_22_code 73 = .ok (.aload_n 0, 1) := by decide +kernel
theorem dM_newTerm_74 : decode prog_9_method_22_code 74 = .ok (.dup, 1) := by decide +kernel
theorem dM_newTerm_75 : decode prog_9_method_22_code 75 = .ok (.getfield 231, 3) := by decide +kernel
theorem dM_newTerm_78 : decode prog_9_method_22_code 78 = .ok (.iconst 1, 1) := by decide +kernel
theorem dM_newTerm_79 : decode prog_9_method_22_code 79 = .ok (.iadd, 1) := by decide +kernel
theorem dM_newTerm_80 : decode prog_9_method_22_code 80 = .ok (.putfield 231, 3) := by decide +kernel
theorem dM_newTerm_83 : decode prog_9_method_22_code 83 = .ok (.aload_n 0, 1) := by decide +kernel
theorem dM_newTerm_84 : decode prog_9_method_22_code 84 = .ok (.getfield 231, 3) := by decide +kernel
theorem dM_newTerm_87 : decode prog_9_method_22_code 87 = .ok (.iconst 1, 1) := by decide +kernel
theorem dM_newTerm_88 : decode prog_9_method_22_code 88 = .ok (.isub, 1) := by decide +kernel
theorem dM_newTerm_89 : decode prog_9_method_22_code 89 = .ok (.ireturn, 1) := by decide +kernel
theorem dM_fresh_0 : decode prog_9_method_23_code 0 = .ok (.aload_n 0, 1) := by decide +kernel
theorem dM_fresh_1 : decode prog_9_method_23_code 1 = .ok (.iconst (-1), 1) := by decide +kernel
theorem dM_fresh_2 : decode prog_9_method_23_code 2 = .ok (.iconst (-1), 1) := by decide +kernel
theorem dM_fresh_3 : decode prog_9_method_23_code 3 = .ok (.iconst (-1), 1) := by decide +kernel
theorem dM_fresh_4 : decode prog_9_method_23_code 4 = .ok (.invokevirtual 234, 3) := by decide +kernel
theorem dM_fresh_7 : decode prog_9_method_23_code 7 = .ok (.ireturn, 1) := by decide +kernel
theorem dM_arrow_0 : decode prog_9_method_24_code 0 = .ok (.aload_n 0, 1) := by decide +kernel
theorem dM_arrow_1 : decode prog_9_method_24_code 1 = .ok (.iconst 0, 1) := by decide +kernel
theorem dM_arrow_2 : decode prog_9_method_24_code 2 = .ok (.iload_n 1, 1) := by decide +kernel
theorem dM_arrow_3 : decode prog_9_method_24_code 3 = .ok (.iload_n 2, 1) := by decide +kernel
theorem dM_arrow_4 : decode prog_9_method_24_code 4 = .ok (.invokevirtual 234, 3) := by decide +kernel
theorem dM_arrow_7 : decode prog_9_method_24_code 7 = .ok (.ireturn, 1) := by decide +kernel
theorem dM_find_0 : decode prog_9_method_25_code 0 = .ok (.iload_n 1, 1) := by decide +kernel
theorem dM_find_1 : decode prog_9_method_25_code 1 = .ok (.istore_n 2, 1) := by decide +kernel
theorem dM_find_2 : decode prog_9_method_25_code 2 = .ok (.aload_n 0, 1) := by decide +kernel
theorem dM_find_3 : decode prog_9_method_25_code 3 = .ok (.getfield 103, 3) := by decide +kernel
theorem dM_find_6 : decode prog_9_method_25_code 6 = .ok (.iload_n 2, 1) := by decide +kernel
theorem dM_find_7 : decode prog_9_method_25_code 7 = .ok (.iaload, 1) := by decide +kernel
theorem dM_find_8 : decode prog_9_method_25_code 8 = .ok (.iload_n 2, 1) := by decide +kernel
theorem dM_find_9 : decode prog_9_method_25_code 9 = .ok (.if_icmp .eq 13, 3) := by decide +kernel
theorem dM_find_12 : decode prog_9_method_25_code 12 = .ok (.aload_n 0, 1) := by decide +kernel
theorem dM_find_13 : decode prog_9_method_25_code 13 = .ok (.getfield 103, 3) := by decide +kernel
theorem dM_find_16 : decode prog_9_method_25_code 16 = .ok (.iload_n 2, 1) := by decide +kernel
theorem dM_find_17 : decode prog_9_method_25_code 17 = .ok (.iaload, 1) := by decide +kernel
theorem dM_find_18 : decode prog_9_method_25_code 18 = .ok (.istore_n 2, 1) := by decide +kernel
theorem dM_find_19 : decode prog_9_method_25_code 19 = .ok (.goto (-17), 3) := by decide +kernel
theorem dM_find_22 : decode prog_9_method_25_code 22 = .ok (.iload_n 2, 1) := by decide +kernel
theorem dM_find_23 : decode prog_9_method_25_code 23 = .ok (.ireturn, 1) := by decide +kernel
