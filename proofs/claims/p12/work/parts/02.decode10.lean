theorem dM_copyOf_0 : decode prog_9_method_37_code 0 = .ok (.aload_n 0, 1) := by decide +kernel
theorem dM_copyOf_1 : decode prog_9_method_37_code 1 = .ok (.iconst 0, 1) := by decide +kernel
theorem dM_copyOf_2 : decode prog_9_method_37_code 2 = .ok (.putfield 250, 3) := by decide +kernel
theorem dM_copyOf_5 : decode prog_9_method_37_code 5 = .ok (.aload_n 0, 1) := by decide +kernel
theorem dM_copyOf_6 : decode prog_9_method_37_code 6 = .ok (.dup, 1) := by decide +kernel
theorem dM_copyOf_7 : decode prog_9_method_37_code 7 = .ok (.getfield 247, 3) := by decide +kernel
theorem dM_copyOf_10 : decode prog_9_method_37_code 10 = .ok (.iconst 1, 1) := by decide +kernel
theorem dM_copyOf_11 : decode prog_9_method_37_code 11 = .ok (.iadd, 1) := by decide +kernel
theorem dM_copyOf_12 : decode prog_9_method_37_code 12 = .ok (.putfield 247, 3) := by decide +kernel
theorem dM_copyOf_15 : decode prog_9_method_37_code 15 = .ok (.aload_n 0, 1) := by decide +kernel
theorem dM_copyOf_16 : decode prog_9_method_37_code 16 = .ok (.getfield 247, 3) := by decide +kernel
theorem dM_copyOf_19 : decode prog_9_method_37_code 19 = .ok (.istore_n 2, 1) := by decide +kernel
theorem dM_copyOf_20 : decode prog_9_method_37_code 20 = .ok (.aload_n 0, 1) := by decide +kernel
theorem dM_copyOf_21 : decode prog_9_method_37_code 21 = .ok (.getfield 63, 3) := by decide +kernel
theorem dM_copyOf_24 : decode prog_9_method_37_code 24 = .ok (.iload_n 1, 1) := by decide +kernel
theorem dM_copyOf_25 : decode prog_9_method_37_code 25 = .ok (.iaload, 1) := by decide +kernel
theorem dM_copyOf_26 : decode prog_9_method_37_code 26 = .ok (.istore_n 3, 1) := by decide +kernel
theorem dM_copyOf_27 : decode prog_9_method_37_code 27 = .ok (.iload_n 3, 1) := by decide +kernel
theorem dM_copyOf_28 : decode prog_9_method_37_code 28 = .ok (.ifCond .lt 32, 3) := by decide +kernel
theorem dM_copyOf_31 : decode prog_9_method_37_code 31 = .ok (.aload_n 0, 1) := by decide +kernel
theorem dM_copyOf_32 : decode prog_9_method_37_code 32 = .ok (.iload_n 3, 1) := by decide +kernel
theorem dM_copyOf_33 : decode prog_9_method_37_code 33 = .ok (.invokevirtual 227, 3) := by decide +kernel
theorem dM_copyOf_36 : decode prog_9_method_37_code 36 = .ok (.iconst 1, 1) := by decide +kernel
theorem dM_copyOf_37 : decode prog_9_method_37_code 37 = .ok (.if_icmp .ne 13, 3) := by decide +kernel
theorem dM_copyOf_40 : decode prog_9_method_37_code 40 = .ok (.aload_n 0, 1) := by decide +kernel
theorem dM_copyOf_41 : decode prog_9_method_37_code 41 = .ok (.aload_n 0, 1) := by decide +kernel
theorem dM_copyOf_42 : decode prog_9_method_37_code 42 = .ok (.getfield 78, 3) := by decide +kernel
theorem dM_copyOf_45 : decode prog_9_method_37_code 45 = .ok (.iload_n 3, 1) := by decide +kernel
theorem dM_copyOf_46 : decode prog_9_method_37_code 46 = .ok (.iaload, 1) := by decide +kernel
theorem dM_copyOf_47 : decode prog_9_method_37_code 47 = .ok (.invokevirtual 275, 3) := by decide +kernel
theorem dM_copyOf_50 : decode prog_9_method_37_code 50 = .ok (.aload_n 0, 1) := by decide +kernel
theorem dM_copyOf_51 : decode prog_9_method_37_code 51 = .ok (.getfield 63, 3) := by decide +kernel
theorem dM_copyOf_54 : decode prog_9_method_37_code 54 = .ok (.iload_n 3, 1) := by decide +kernel
theorem dM_copyOf_55 : decode prog_9_method_37_code 55 = .ok (.iaload, 1) := by decide +kernel
theorem dM_copyOf_56 : decode prog_9_method_37_code 56 = .ok (.istore_n 3, 1) := by decide +kernel
theorem dM_copyOf_57 : decode prog_9_method_37_code 57 = .ok (.goto (-30), 3) := by decide +kernel
theorem dM_copyOf_60 : decode prog_9_method_37_code 60 = .ok (.aload_n 0, 1) := by decide +kernel
theorem dM_copyOf_61 : decode prog_9_method_37_code 61 = .ok (.iconst 0, 1) := by decide +kernel
theorem dM_copyOf_62 : decode prog_9_method_37_code 62 = .ok (.putfield 250, 3) := by decide +kernel
theorem dM_copyOf_65 : decode prog_9_method_37_code 65 = .ok (.aload_n 0, 1) := by decide +kernel
theorem dM_copyOf_66 : decode prog_9_method_37_code 66 = .ok (.aload_n 0, 1) := by decide +kernel
theorem dM_copyOf_67 : decode prog_9_method_37_code 67 = .ok (.getfield 75, 3) := by decide +kernel
theorem dM_copyOf_70 : decode prog_9_method_37_code 70 = .ok (.aload_n 0, 1) := by decide +kernel
theorem dM_copyOf_71 : decode prog_9_method_37_code 71 = .ok (.getfield 69, 3) := by decide +kernel
theorem dM_copyOf_74 : decode prog_9_method_37_code 74 = .ok (.iload_n 1, 1) := by decide +kernel
theorem dM_copyOf_75 : decode prog_9_method_37_code 75 = .ok (.iaload, 1) := by decide +kernel
theorem dM_copyOf_76 : decode prog_9_method_37_code 76 = .ok (.iaload, 1) := by decide +kernel
theorem dM_copyOf_77 : decode prog_9_method_37_code 77 = .ok (.invokevirtual 241, 3) := by decide +kernel
theorem dM_copyOf_80 : decode prog_9_method_37_code 80 = .ok (.istore_n 3, 1) := by decide +kernel
theorem dM_copyOf_81 : decode prog_9_method_37_code 81 = .ok (.iconst 1, 1) := by decide +kernel
theorem dM_copyOf_82 : decode prog_9_method_37_code 82 = .ok (.istore 4, 2) := by decide +kernel
theorem dM_copyOf_84 : decode prog_9_method_37_code 84 = .ok (.aload_n 0, 1) := by decide +kernel
theorem dM_copyOf_85 : decode prog_9_method_37_code 85 = .ok (.getfield 131, 3) := by decide +kernel
theorem dM_copyOf_88 : decode prog_9_method_37_code 88 = .ok (.iconst 0, 1) := by decide +kernel
theorem dM_copyOf_89 : decode prog_9_method_37_code 89 = .ok (.iload_n 3, 1) := by decide +kernel
theorem dM_copyOf_90 : decode prog_9_method_37_code 90 = .ok (.iastore, 1) := by decide +kernel
theorem dM_copyOf_91 : decode prog_9_method_37_code 91 = .ok (.aload_n 0, 1) := by decide +kernel
theorem dM_copyOf_92 : decode prog_9_method_37_code 92 = .ok (.dup, 1) := by decide +kernel
theorem dM_copyOf_93 : decode prog_9_method_37_code 93 = .ok (.getfield 247, 3) := by decide +kernel
theorem dM_copyOf_96 : decode prog_9_method_37_code 96 = .ok (.iconst 1, 1) := by decide +kernel
theorem dM_copyOf_97 : decode prog_9_method_37_code 97 = .ok (.iadd, 1) := by decide +kernel
theorem dM_copyOf_98 : decode prog_9_method_37_code 98 = .ok (.putfield 247, 3) := by decide +kernel
theorem dM_copyOf_101 : decode prog_9_method_37_code 101 = .ok (.iload 4, 2) := by decide +kernel
theorem dM_copyOf_103 : decode prog_9_method_37_code 103 = .ok (.ifCond .le 153, 3) := by decide +kernel
theorem dM_copyOf_106 : decode prog_9_method_37_code 106 = .ok (.iinc 4 (-1), 3) := by decide +kernel
theorem dM_copyOf_109 : decode prog_9_method_37_code 109 = .ok (.aload_n 0, 1) := by decide +kernel
theorem dM_copyOf_110 : decode prog_9_method_37_code 110 = .ok (.aload_n 0, 1) := by decide +kernel
theorem dM_copyOf_111 : decode prog_9_method_37_code 111 = .ok (.getfield 131, 3) := by decide +kernel
theorem dM_copyOf_114 : decode prog_9_method_37_code 114 = .ok (.iload 4, 2) := by decide +kernel
theorem dM_copyOf_116 : decode prog_9_method_37_code 116 = .ok (.iaload, 1) := by decide +kernel
theorem dM_copyOf_117 : decode prog_9_method_37_code 117 = .ok (.invokevirtual 241, 3) := by decide +kernel
theorem dM_copyOf_120 : decode prog_9_method_37_code 120 = .ok (.istore 5, 2) := by decide +kernel
theorem dM_copyOf_122 : decode prog_9_method_37_code 122 = .ok (.aload_n 0, 1) := by decide +kernel
theorem dM_copyOf_123 : decode prog_9_method_37_code 123 = .ok (.getfield 115, 3) := by decide +kernel
theorem dM_copyOf_126 : decode prog_9_method_37_code 126 = .ok (.iload 5, 2) := by decide +kernel
theorem dM_copyOf_128 : decode prog_9_method_37_code 128 = .ok (.iaload, 1) := by decide +kernel
theorem dM_copyOf_129 : decode prog_9_method_37_code 129 = .ok (.aload_n 0, 1) := by decide +kernel
theorem dM_copyOf_130 : decode prog_9_method_37_code 130 = .ok (.getfield 247, 3) := by decide +kernel
theorem dM_copyOf_133 : decode prog_9_method_37_code 133 = .ok (.if_icmp .eq 120, 3) := by decide +kernel
theorem dM_copyOf_136 : decode prog_9_method_37_code 136 = .ok (.aload_n 0, 1) := by decide +kernel
theorem dM_copyOf_137 : decode prog_9_method_37_code 137 = .ok (.getfield 115, 3) := by decide +kernel
theorem dM_copyOf_140 : decode prog_9_method_37_code 140 = .ok (.iload 5, 2) := by decide +kernel
theorem dM_copyOf_142 : decode prog_9_method_37_code 142 = .ok (.iaload, 1) := by decide +kernel
theorem dM_copyOf_143 : decode prog_9_method_37_code 143 = .ok (.iload_n 2, 1) := by decide +kernel
theorem dM_copyOf_144 : decode prog_9_method_37_code 144 = .ok (.if_icmp .eq 109, 3) := by decide +kernel
theorem dM_copyOf_147 : decode prog_9_method_37_code 147 = .ok (.aload_n 0, 1) := by decide +kernel
theorem dM_copyOf_148 : decode prog_9_method_37_code 148 = .ok (.getfield 115, 3) := by decide +kernel
theorem dM_copyOf_151 : decode prog_9_method_37_code 151 = .ok (.iload 5, 2) := by decide +kernel
theorem dM_copyOf_153 : decode prog_9_method_37_code 153 = .ok (.aload_n 0, 1) := by decide +kernel
theorem dM_copyOf_154 : decode prog_9_method_37_code 154 = .ok (.getfield 247, 3) := by decide +kernel
theorem dM_copyOf_157 : decode prog_9_method_37_code 157 = .ok (.iastore, 1) := by decide +kernel
theorem dM_copyOf_158 : decode prog_9_method_37_code 158 = .ok (.aload_n 0, 1) := by decide +kernel
theorem dM_copyOf_159 : decode prog_9_method_37_code 159 = .ok (.getfield 134, 3) := by decide +kernel
theorem dM_copyOf_162 : decode prog_9_method_37_code 162 = .ok (.aload_n 0, 1) := by decide +kernel
theorem dM_copyOf_163 : decode prog_9_method_37_code 163 = .ok (.getfield 250, 3) := by decide +kernel
theorem dM_copyOf_166 : decode prog_9_method_37_code 166 = .ok (.iload 5, 2) := by decide +kernel
theorem dM_copyOf_168 : decode prog_9_method_37_code 168 = .ok (.iastore, 1) := by decide +kernel
theorem dM_copyOf_169 : decode prog_9_method_37_code 169 = .ok (.aload_n 0, 1) := by decide +kernel
theorem dM_copyOf_170 : decode prog_9_method_37_code 170 = .ok (.dup, 1) := by decide +kernel
theorem dM_copyOf_171 : decode prog_9_method_37_code 171 = .ok (.getfield 250, 3) := by decide +kernel
theorem dM_copyOf_174 : decode prog_9_method_37_code 174 = .ok (.iconst 1, 1) := by decide +kernel
theorem dM_copyOf_175 : decode prog_9_method_37_code 175 = .ok (.iadd, 1) := by decide +kernel
theorem dM_copyOf_176 : decode prog_9_method_37_code 176 = .ok (.putfield 250, 3) := by decide +kernel
theorem dM_copyOf_179 : decode prog_9_method_37_code 179 = .ok (.aload_n 0, 1) := by decide +kernel
theorem dM_copyOf_180 : decode prog_9_method_37_code 180 = .ok (.getfield 118, 3) := by decide +kernel
theorem dM_copyOf_183 : decode prog_9_method_37_code 183 = .ok (.iload 5, 2) := by decide +kernel
theorem dM_copyOf_185 : decode prog_9_method_37_code 185 = .ok (.aload_n 0, 1) := by decide +kernel
theorem dM_copyOf_186 : decode prog_9_method_37_code 186 = .ok (.aload_n 0, 1) := by decide +kernel
theorem dM_copyOf_187 : decode prog_9_method_37_code 187 = .ok (.getfield 106, 3) := by decide +kernel
theorem dM_copyOf_190 : decode prog_9_method_37_code 190 = .ok (.iload 5, 2) := by decide +kernel
theorem dM_copyOf_192 : decode prog_9_method_37_code 192 = .ok (.iaload, 1) := by decide +kernel
theorem dM_copyOf_193 : decode prog_9_method_37_code 193 = .ok (.iconst (-1), 1) := by decide +kernel
theorem dM_copyOf_194 : decode prog_9_method_37_code 194 = .ok (.iconst (-1), 1) := by decide +kernel
theorem dM_copyOf_195 : decode prog_9_method_37_code 195 = .ok (.invokevirtual 234, 3) := by decide +kernel
theorem dM_copyOf_198 : decode prog_9_method_37_code 198 = .ok (.iastore, 1) := by decide +kernel
theorem dM_copyOf_199 : decode prog_9_method_37_code 199 = .ok (.aload_n 0, 1) := by decide +kernel
theorem dM_copyOf_200 : decode prog_9_method_37_code 200 = .ok (.getfield 109, 3) := by decide +kernel
theorem dM_copyOf_203 : decode prog_9_method_37_code 203 = .ok (.iload 5, 2) := by decide +kernel
theorem dM_copyOf_205 : decode prog_9_method_37_code 205 = .ok (.iaload, 1) := by decide +kernel
theorem dM_copyOf_206 : decode prog_9_method_37_code 206 = .ok (.ifCond .lt 20, 3) := by decide +kernel
theorem dM_copyOf_209 : decode prog_9_method_37_code 209 = .ok (.aload_n 0, 1) := by decide +kernel
theorem dM_copyOf_210 : decode prog_9_method_37_code 210 = .ok (.getfield 131, 3) := by decide +kernel
theorem dM_copyOf_213 : decode prog_9_method_37_code 213 = .ok (.iload 4, 2) := by decide +kernel
theorem dM_copyOf_215 : decode prog_9_method_37_code 215 = .ok (.aload_n 0, 1) := by decide +kernel
theorem dM_copyOf_216 : decode prog_9_method_37_code 216 = .ok (.getfield 109, 3) := by decide +kernel
theorem dM_copyOf_219 : decode prog_9_method_37_code 219 = .ok (.iload 5, 2) := by decide +kernel
theorem dM_copyOf_221 : decode prog_9_method_37_code 221 = .ok (.iaload, 1) := by decide +kernel
theorem dM_copyOf_222 : decode prog_9_method_37_code 222 = .ok (.iastore, 1) := by decide +kernel
theorem dM_copyOf_223 : decode prog_9_method_37_code 223 = .ok (.iinc 4 1, 3) := by decide +kernel
theorem dM_copyOf_226 : decode prog_9_method_37_code 226 = .ok (.aload_n 0, 1) := by decide +kernel
theorem dM_copyOf_227 : decode prog_9_method_37_code 227 = .ok (.getfield 112, 3) := by decide +kernel
theorem dM_copyOf_230 : decode prog_9_method_37_code 230 = .ok (.iload 5, 2) := by decide +kernel
theorem dM_copyOf_232 : decode prog_9_method_37_code 232 = .ok (.iaload, 1) := by decide +kernel
theorem dM_copyOf_233 : decode prog_9_method_37_code 233 = .ok (.ifCond .lt 20, 3) := by decide +kernel
theorem dM_copyOf_236 : decode prog_9_method_37_code 236 = .ok (.aload_n 0, 1) := by decide +kernel
theorem dM_copyOf_237 : decode prog_9_method_37_code 237 = .ok (.getfield 131, 3) := by decide +kernel
theorem dM_copyOf_240 : decode prog_9_method_37_code 240 = .ok (.iload 4, 2) := by decide +kernel
theorem dM_copyOf_242 : decode prog_9_method_37_code 242 = .ok (.aload_n 0, 1) := by decide +kernel
theorem dM_copyOf_243 : decode prog_9_method_37_code 243 = .ok (.getfield 112, 3) := by decide +kernel
theorem dM_copyOf_246 : decode prog_9_method_37_code 246 = .ok (.iload 5, 2) := by decide +kernel
theorem dM_copyOf_248 : decode prog_9_method_37_code 248 = .ok (.iaload, 1) := by decide +kernel
theorem dM_copyOf_249 : decode prog_9_method_37_code 249 = .ok (.iastore, 1) := by decide +kernel
theorem dM_copyOf_250 : decode prog_9_method_37_code 250 = .ok (.iinc 4 1, 3) := by decide +kernel
theorem dM_copyOf_253 : decode prog_9_method_37_code 253 = .ok (.goto (-152), 3) := by decide +kernel
theorem dM_copyOf_256 : decode prog_9_method_37_code 256 = .ok (.iconst 0, 1) := by decide +kernel
theorem dM_copyOf_257 : decode prog_9_method_37_code 257 = .ok (.istore 5, 2) := by decide +kernel
theorem dM_copyOf_259 : decode prog_9_method_37_code 259 = .ok (.iload 5, 2) := by decide +kernel
theorem dM_copyOf_261 : decode prog_9_method_37_code 261 = .ok (.aload_n 0, 1) := by decide +kernel
theorem dM_copyOf_262 : decode prog_9_method_37_code 262 = .ok (.getfield 250, 3) := by decide +kernel
theorem dM_copyOf_265 : decode prog_9_method_37_code 265 = .ok (.if_icmp .ge 64, 3) := by decide +kernel
theorem dM_copyOf_268 : decode prog_9_method_37_code 268 = .ok (.aload_n 0, 1) := by decide +kernel
theorem dM_copyOf_269 : decode prog_9_method_37_code 269 = .ok (.getfield 134, 3) := by decide +kernel
theorem dM_copyOf_272 : decode prog_9_method_37_code 272 = .ok (.iload 5, 2) := by decide +kernel
theorem dM_copyOf_274 : decode prog_9_method_37_code 274 = .ok (.iaload, 1) := by decide +kernel
theorem dM_copyOf_275 : decode prog_9_method_37_code 275 = .ok (.istore 6, 2) := by decide +kernel
theorem dM_copyOf_277 : decode prog_9_method_37_code 277 = .ok (.aload_n 0, 1) := by decide +kernel
theorem dM_copyOf_278 : decode prog_9_method_37_code 278 = .ok (.getfield 109, 3) := by decide +kernel
theorem dM_copyOf_281 : decode prog_9_method_37_code 281 = .ok (.aload_n 0, 1) := by decide +kernel
theorem dM_copyOf_282 : decode prog_9_method_37_code 282 = .ok (.getfield 118, 3) := by decide +kernel
theorem dM_copyOf_285 : decode prog_9_method_37_code 285 = .ok (.iload 6, 2) := by decide +kernel
theorem dM_copyOf_287 : decode prog_9_method_37_code 287 = .ok (.iaload, 1) := by decide +kernel
theorem dM_copyOf_288 : decode prog_9_method_37_code 288 = .ok (.aload_n 0, 1) := by decide +kernel
theorem dM_copyOf_289 : decode prog_9_method_37_code 289 = .ok (.aload_n 0, 1) := by decide +kernel
theorem dM_copyOf_290 : decode prog_9_method_37_code 290 = .ok (.getfield 109, 3) := by decide +kernel
theorem dM_copyOf_293 : decode prog_9_method_37_code 293 = .ok (.iload 6, 2) := by decide +kernel
theorem dM_copyOf_295 : decode prog_9_method_37_code 295 = .ok (.iaload, 1) := by decide +kernel
theorem dM_copyOf_296 : decode prog_9_method_37_code 296 = .ok (.invokevirtual 291, 3) := by decide +kernel
theorem dM_copyOf_299 : decode prog_9_method_37_code 299 = .ok (.iastore, 1) := by decide +kernel
theorem dM_copyOf_300 : decode prog_9_method_37_code 300 = .ok (.aload_n 0, 1) := by decide +kernel
theorem dM_copyOf_301 : decode prog_9_method_37_code 301 = .ok (.getfield 112, 3) := by decide +kernel
theorem dM_copyOf_304 : decode prog_9_method_37_code 304 = .ok (.aload_n 0, 1) := by decide +kernel
theorem dM_copyOf_305 : decode prog_9_method_37_code 305 = .ok (.getfield 118, 3) := by decide +kernel
theorem dM_copyOf_308 : decode prog_9_method_37_code 308 = .ok (.iload 6, 2) := by decide +kernel
theorem dM_copyOf_310 : decode prog_9_method_37_code 310 = .ok (.iaload, 1) := by decide +kernel
theorem dM_copyOf_311 : decode prog_9_method_37_code 311 = .ok (.aload_n 0, 1) := by decide +kernel
theorem dM_copyOf_312 : decode prog_9_method_37_code 312 = .ok (.aload_n 0, 1) := by decide +kernel
theorem dM_copyOf_313 : decode prog_9_method_37_code 313 = .ok (.getfield 112, 3) := by decide +kernel
theorem dM_copyOf_316 : decode prog_9_method_37_code 316 = .ok (.iload 6, 2) := by decide +kernel
theorem dM_copyOf_318 : decode prog_9_method_37_code 318 = .ok (.iaload, 1) := by decide +kernel
theorem dM_copyOf_319 : decode prog_9_method_37_code 319 = .ok (.invokevirtual 291, 3) := by decide +kernel
theorem dM_copyOf_322 : decode prog_9_method_37_code 322 = .ok (.iastore, 1) := by decide +kernel
theorem dM_copyOf_323 : decode prog_9_method_37_code 323 = .ok (.iinc 5 1, 3) := by decide +kernel
theorem dM_copyOf_326 : decode prog_9_method_37_code 326 = .ok (.goto (-67), 3) := by decide +kernel
theorem dM_copyOf_329 : decode prog_9_method_37_code 329 = .ok (.aload_n 0, 1) := by decide +kernel
theorem dM_copyOf_330 : decode prog_9_method_37_code 330 = .ok (.getfield 81, 3) := by decide +kernel
theorem dM_copyOf_333 : decode prog_9_method_37_code 333 = .ok (.iload_n 1, 1) := by decide +kernel
theorem dM_copyOf_334 : decode prog_9_method_37_code 334 = .ok (.iaload, 1) := by decide +kernel
theorem dM_copyOf_335 : decode prog_9_method_37_code 335 = .ok (.istore 5, 2) := by decide +kernel
theorem dM_copyOf_337 : decode prog_9_method_37_code 337 = .ok (.iload 5, 2) := by decide +kernel
theorem dM_copyOf_339 : decode prog_9_method_37_code 339 = .ok (.aload_n 0, 1) := by decide +kernel
theorem dM_copyOf_340 : decode prog_9_method_37_code 340 = .ok (.getfield 81, 3) := by decide +kernel
theorem dM_copyOf_343 : decode prog_9_method_37_code 343 = .ok (.iload_n 1, 1) := by decide +kernel
theorem dM_copyOf_344 : decode prog_9_method_37_code 344 = .ok (.iaload, 1) := by decide +kernel
theorem dM_copyOf_345 : decode prog_9_method_37_code 345 = .ok (.aload_n 0, 1) := by decide +kernel
theorem dM_copyOf_346 : decode prog_9_method_37_code 346 = .ok (.getfield 84, 3) := by decide +kernel
theorem dM_copyOf_349 : decode prog_9_method_37_code 349 = .ok (.iload_n 1, 1) := by decide +kernel
theorem dM_copyOf_350 : decode prog_9_method_37_code 350 = .ok (.iaload, 1) := by decide +kernel
theorem dM_copyOf_351 : decode prog_9_method_37_code 351 = .ok (.iadd, 1) := by decide +kernel
theorem dM_copyOf_352 : decode prog_9_method_37_code 352 = .ok (.if_icmp .ge 50, 3) := by decide +kernel
theorem dM_copyOf_355 : decode prog_9_method_37_code 355 = .ok (.aload_n 0, 1) := by decide +kernel
theorem dM_copyOf_356 : decode prog_9_method_37_code 356 = .ok (.aload_n 0, 1) := by decide +kernel
theorem dM_copyOf_357 : decode prog_9_method_37_code 357 = .ok (.aload_n 0, 1) := by decide +kernel
theorem dM_copyOf_358 : decode prog_9_method_37_code 358 = .ok (.getfield 96, 3) := by decide +kernel
theorem dM_copyOf_361 : decode prog_9_method_37_code 361 = .ok (.iload 5, 2) := by decide +kernel
theorem dM_copyOf_363 : decode prog_9_method_37_code 363 = .ok (.iaload, 1) := by decide +kernel
theorem dM_copyOf_364 : decode prog_9_method_37_code 364 = .ok (.invokevirtual 291, 3) := by decide +kernel
theorem dM_copyOf_367 : decode prog_9_method_37_code 367 = .ok (.aload_n 0, 1) := by decide +kernel
theorem dM_copyOf_368 : decode prog_9_method_37_code 368 = .ok (.getfield 99, 3) := by decide +kernel
theorem dM_copyOf_371 : decode prog_9_method_37_code 371 = .ok (.iload 5, 2) := by decide +kernel
theorem dM_copyOf_373 : decode prog_9_method_37_code 373 = .ok (.iaload, 1) := by decide +kernel
theorem dM_copyOf_374 : decode prog_9_method_37_code 374 = .ok (.invokevirtual 278, 3) := by decide +kernel
theorem dM_copyOf_377 : decode prog_9_method_37_code 377 = .ok (.aload_n 0, 1) := by decide +kernel
theorem dM_copyOf_378 : decode prog_9_method_37_code 378 = .ok (.aload_n 0, 1) := by decide +kernel
theorem dM_copyOf_379 : decode prog_9_method_37_code 379 = .ok (.getfield 294, 3) := by decide +kernel
theorem dM_copyOf_382 : decode prog_9_method_37_code 382 = .ok (.aload_n 0, 1) := by decide +kernel
theorem dM_copyOf_383 : decode prog_9_method_37_code 383 = .ok (.getfield 99, 3) := by decide +kernel
theorem dM_copyOf_386 : decode prog_9_method_37_code 386 = .ok (.iload 5, 2) := by decide +kernel
theorem dM_copyOf_388 : decode prog_9_method_37_code 388 = .ok (.iaload, 1) := by decide +kernel
theorem dM_copyOf_389 : decode prog_9_method_37_code 389 = .ok (.invokestatic 297, 3) := by decide +kernel
theorem dM_copyOf_392 : decode prog_9_method_37_code 392 = .ok (.iadd, 1) := by decide +kernel
theorem dM_copyOf_393 : decode prog_9_method_37_code 393 = .ok (.putfield 294, 3) := by decide +kernel
theorem dM_copyOf_396 : decode prog_9_method_37_code 396 = .ok (.iinc 5 1, 3) := by decide +kernel
theorem dM_copyOf_399 : decode prog_9_method_37_code 399 = .ok (.goto (-62), 3) := by decide +kernel
theorem dM_copyOf_402 : decode prog_9_method_37_code 402 = .ok (.aload_n 0, 1) := by decide +kernel
theorem dM_copyOf_403 : decode prog_9_method_37_code 403 = .ok (.iload_n 3, 1) := by decide +kernel
theorem dM_copyOf_404 : decode prog_9_method_37_code 404 = .ok (.invokevirtual 291, 3) := by decide +kernel
theorem dM_copyOf_407 : decode prog_9_method_37_code 407 = .ok (.ireturn, 1) := by decide +kernel
theorem dM_copied_0 : decode prog_9_method_38_code 0 = .ok (.iload_n 1, 1) := by decide +kernel
theorem dM_copied_1 : decode prog_9_method_38_code 1 = .ok (.ifCond .ge 7, 3) := by decide +kernel
theorem dM_copied_4 : decode prog_9_method_38_code 4 = .ok (.iconst (-1), 1) := by decide +kernel
theorem dM_copied_5 : decode prog_9_method_38_code 5 = .ok (.goto 38, 3) := by decide +kernel
theorem dM_copied_8 : decode prog_9_method_38_code 8 = .ok (.aload_n 0, 1) := by decide +kernel
theorem dM_copied_9 : decode prog_9_method_38_code 9 = .ok (.getfield 115, 3) := by decide +kernel
theorem dM_copied_12 : decode prog_9_method_38_code 12 = .ok (.aload_n 0, 1) := by decide +kernel
theorem dM_copied_13 : decode prog_9_method_38_code 13 = .ok (.iload_n 1, 1) := by decide +kernel
theorem dM_copied_14 : decode prog_9_method_38_code 14 = .ok (.invokevirtual 241, 3) := by decide +kernel
theorem dM_copied_17 : decode prog_9_method_38_code 17 = .ok (.iaload, 1) := by decide +kernel
theorem dM_copied_18 : decode prog_9_method_38_code 18 = .ok (.aload_n 0, 1) := by decide +kernel
theorem dM_copied_19 : decode prog_9_method_38_code 19 = .ok (.getfield 247, 3) := by decide +kernel
theorem dM_copied_22 : decode prog_9_method_38_code 22 = .ok (.if_icmp .ne 16, 3) := by decide +kernel
theorem dM_copied_25 : decode prog_9_method_38_code 25 = .ok (.aload_n 0, 1) := by decide +kernel
theorem dM_copied_26 : decode prog_9_method_38_code 26 = .ok (.getfield 118, 3) := by decide +kernel
theorem dM_copied_29 : decode prog_9_method_38_code 29 = .ok (.aload_n 0, 1) := by decide +kernel
theorem dM_copied_30 : decode prog_9_method_38_code 30 = .ok (.iload_n 1, 1) := by decide +kernel
theorem dM_copied_31 : decode prog_9_method_38_code 31 = .ok (.invokevirtual 241, 3) := by decide +kernel
theorem dM_copied_34 : decode prog_9_method_38_code 34 = .ok (.iaload, 1) := by decide +kernel
theorem dM_copied_35 : decode prog_9_method_38_code 35 = .ok (.goto 8, 3) := by decide +kernel
theorem dM_copied_38 : decode prog_9_method_38_code 38 = .ok (.aload_n 0, 1) := by decide +kernel
theorem dM_copied_39 : decode prog_9_method_38_code 39 = .ok (.iload_n 1, 1) := by decide +kernel
theorem dM_copied_40 : decode prog_9_method_38_code 40 = .ok (.invokevirtual 241, 3) := by decide +kernel
theorem dM_copied_43 : decode prog_9_method_38_code 43 = .ok (.ireturn, 1) := by decide +kernel
theorem dM_typeName_0 : decode prog_9_method_39_code 0 = .ok (.aload_n 0, 1) := by decide +kernel
theorem dM_typeName_1 : decode prog_9_method_39_code 1 = .ok (.iload_n 1, 1) := by decide +kernel
theorem dM_typeName_2 : decode prog_9_method_39_code 2 = .ok (.invokevirtual 300, 3) := by decide +kernel
theorem dM_typeName_5 : decode prog_9_method_39_code 5 = .ok (.istore_n 2, 1) := by decide +kernel
theorem dM_typeName_6 : decode prog_9_method_39_code 6 = .ok (.iload_n 2, 1) := by decide +kernel
theorem dM_typeName_7 : decode prog_9_method_39_code 7 = .ok (.ifCond .ge 11, 3) := by decide +kernel
theorem dM_typeName_10 : decode prog_9_method_39_code 10 = .ok (.aload_n 0, 1) := by decide +kernel
theorem dM_typeName_11 : decode prog_9_method_39_code 11 = .ok (.iconst 1, 1) := by decide +kernel
theorem dM_typeName_12 : decode prog_9_method_39_code 12 = .ok (.putfield 237, 3) := by decide +kernel
theorem dM_typeName_15 : decode prog_9_method_39_code 15 = .ok (.goto 32, 3) := by decide +kernel
theorem dM_typeName_18 : decode prog_9_method_39_code 18 = .ok (.aload_n 0, 1) := by decide +kernel
theorem dM_typeName_19 : decode prog_9_method_39_code 19 = .ok (.getfield 75, 3) := by decide +kernel
theorem dM_typeName_22 : decode prog_9_method_39_code 22 = .ok (.iload_n 1, 1) := by decide +kernel
theorem dM_typeName_23 : decode prog_9_method_39_code 23 = .ok (.aload_n 0, 1) := by decide +kernel
theorem dM_typeName_24 : decode prog_9_method_39_code 24 = .ok (.iload_n 2, 1) := by decide +kernel
theorem dM_typeName_25 : decode prog_9_method_39_code 25 = .ok (.invokevirtual 227, 3) := by decide +kernel
theorem dM_typeName_28 : decode prog_9_method_39_code 28 = .ok (.iconst 1, 1) := by decide +kernel
theorem dM_typeName_29 : decode prog_9_method_39_code 29 = .ok (.if_icmp .ne 12, 3) := by decide +kernel
theorem dM_typeName_32 : decode prog_9_method_39_code 32 = .ok (.aload_n 0, 1) := by decide +kernel
theorem dM_typeName_33 : decode prog_9_method_39_code 33 = .ok (.getfield 78, 3) := by decide +kernel
theorem dM_typeName_36 : decode prog_9_method_39_code 36 = .ok (.iload_n 2, 1) := by decide +kernel
theorem dM_typeName_37 : decode prog_9_method_39_code 37 = .ok (.iaload, 1) := by decide +kernel
theorem dM_typeName_38 : decode prog_9_method_39_code 38 = .ok (.goto 8, 3) := by decide +kernel
theorem dM_typeName_41 : decode prog_9_method_39_code 41 = .ok (.aload_n 0, 1) := by decide +kernel
theorem dM_typeName_42 : decode prog_9_method_39_code 42 = .ok (.iload_n 2, 1) := by decide +kernel
theorem dM_typeName_43 : decode prog_9_method_39_code 43 = .ok (.invokevirtual 303, 3) := by decide +kernel
theorem dM_typeName_46 : decode prog_9_method_39_code 46 = .ok (.iastore, 1) := by decide +kernel
theorem dM_typeName_47 : decode prog_9_method_39_code 47 = .ok (.return_, 1) := by decide +kernel
theorem dM_visit_0 : decode prog_9_method_40_code 0 = .ok (.aload_n 0, 1) := by decide +kernel
theorem dM_visit_1 : decode prog_9_method_40_code 1 = .ok (.iload_n 1, 1) := by decide +kernel
theorem dM_visit_2 : decode prog_9_method_40_code 2 = .ok (.invokevirtual 227, 3) := by decide +kernel
theorem dM_visit_5 : decode prog_9_method_40_code 5 = .ok (.istore_n 2, 1) := by decide +kernel
theorem dM_visit_6 : decode prog_9_method_40_code 6 = .ok (.aload_n 0, 1) := by decide +kernel
theorem dM_visit_7 : decode prog_9_method_40_code 7 = .ok (.getfield 87, 3) := by decide +kernel
theorem dM_visit_10 : decode prog_9_method_40_code 10 = .ok (.iload_n 1, 1) := by decide +kernel
theorem dM_visit_11 : decode prog_9_method_40_code 11 = .ok (.iaload, 1) := by decide +kernel
theorem dM_visit_12 : decode prog_9_method_40_code 12 = .ok (.istore_n 3, 1) := by decide +kernel
theorem dM_visit_13 : decode prog_9_method_40_code 13 = .ok (.aload_n 0, 1) := by decide +kernel
theorem dM_visit_14 : decode prog_9_method_40_code 14 = .ok (.getfield 87, 3) := by decide +kernel
theorem dM_visit_17 : decode prog_9_method_40_code 17 = .ok (.iload_n 1, 1) := by decide +kernel
theorem dM_visit_18 : decode prog_9_method_40_code 18 = .ok (.iload_n 3, 1) := by decide +kernel
theorem dM_visit_19 : decode prog_9_method_40_code 19 = .ok (.iconst 1, 1) := by decide +kernel
theorem dM_visit_20 : decode prog_9_method_40_code 20 = .ok (.iadd, 1) := by decide +kernel
theorem dM_visit_21 : decode prog_9_method_40_code 21 = .ok (.iastore, 1) := by decide +kernel
theorem dM_visit_22 : decode prog_9_method_40_code 22 = .ok (.iload_n 2, 1) := by decide +kernel
theorem dM_visit_23 : decode prog_9_method_40_code 23 = .ok (.ifCond .ne 11, 3) := by decide +kernel
theorem dM_visit_26 : decode prog_9_method_40_code 26 = .ok (.aload_n 0, 1) := by decide +kernel
theorem dM_visit_27 : decode prog_9_method_40_code 27 = .ok (.iload_n 1, 1) := by decide +kernel
theorem dM_visit_28 : decode prog_9_method_40_code 28 = .ok (.invokevirtual 306, 3) := by decide +kernel
theorem dM_visit_31 : decode prog_9_method_40_code 31 = .ok (.goto 312, 3) := by decide +kernel
theorem dM_visit_34 : decode prog_9_method_40_code 34 = .ok (.iload_n 2, 1) := by decide +kernel
theorem dM_visit_35 : decode prog_9_method_40_code 35 = .ok (.iconst 4, 1) := by decide +kernel
theorem dM_visit_36 : decode prog_9_method_40_code 36 = .ok (.if_icmp .ne 103, 3) := by decide +kernel
theorem dM_visit_39 : decode prog_9_method_40_code 39 = .ok (.aload_n 0, 1) := by decide +kernel
theorem dM_visit_40 : decode prog_9_method_40_code 40 = .ok (.getfield 48, 3) := by decide +kernel
theorem dM_visit_43 : decode prog_9_method_40_code 43 = .ok (.aload_n 0, 1) := by decide +kernel
theorem dM_visit_44 : decode prog_9_method_40_code 44 = .ok (.getfield 60, 3) := by decide +kernel
theorem dM_visit_47 : decode prog_9_method_40_code 47 = .ok (.iload_n 1, 1) := by decide +kernel
theorem dM_visit_48 : decode prog_9_method_40_code 48 = .ok (.iaload, 1) := by decide +kernel
theorem dM_visit_49 : decode prog_9_method_40_code 49 = .ok (.iaload, 1) := by decide +kernel
theorem dM_visit_50 : decode prog_9_method_40_code 50 = .ok (.istore 4, 2) := by decide +kernel
theorem dM_visit_52 : decode prog_9_method_40_code 52 = .ok (.aload_n 0, 1) := by decide +kernel
theorem dM_visit_53 : decode prog_9_method_40_code 53 = .ok (.getfield 75, 3) := by decide +kernel
theorem dM_visit_56 : decode prog_9_method_40_code 56 = .ok (.iload_n 1, 1) := by decide +kernel
theorem dM_visit_57 : decode prog_9_method_40_code 57 = .ok (.aload_n 0, 1) := by decide +kernel
theorem dM_visit_58 : decode prog_9_method_40_code 58 = .ok (.aload_n 0, 1) := by decide +kernel
theorem dM_visit_59 : decode prog_9_method_40_code 59 = .ok (.getfield 32, 3) := by decide +kernel
theorem dM_visit_62 : decode prog_9_method_40_code 62 = .ok (.iload 4, 2) := by decide +kernel
theorem dM_visit_64 : decode prog_9_method_40_code 64 = .ok (.iaload, 1) := by decide +kernel
theorem dM_visit_65 : decode prog_9_method_40_code 65 = .ok (.invokevirtual 309, 3) := by decide +kernel
theorem dM_visit_68 : decode prog_9_method_40_code 68 = .ok (.iastore, 1) := by decide +kernel
theorem dM_visit_69 : decode prog_9_method_40_code 69 = .ok (.iconst 0, 1) := by decide +kernel
theorem dM_visit_70 : decode prog_9_method_40_code 70 = .ok (.istore 5, 2) := by decide +kernel
theorem dM_visit_72 : decode prog_9_method_40_code 72 = .ok (.iload 5, 2) := by decide +kernel
theorem dM_visit_74 : decode prog_9_method_40_code 74 = .ok (.aload_n 0, 1) := by decide +kernel
theorem dM_visit_75 : decode prog_9_method_40_code 75 = .ok (.getfield 32, 3) := by decide +kernel
theorem dM_visit_78 : decode prog_9_method_40_code 78 = .ok (.iload 4, 2) := by decide +kernel
theorem dM_visit_80 : decode prog_9_method_40_code 80 = .ok (.iaload, 1) := by decide +kernel
theorem dM_visit_81 : decode prog_9_method_40_code 81 = .ok (.if_icmp .gt 45, 3) := by decide +kernel
theorem dM_visit_84 : decode prog_9_method_40_code 84 = .ok (.aload_n 0, 1) := by decide +kernel
theorem dM_visit_85 : decode prog_9_method_40_code 85 = .ok (.getfield 140, 3) := by decide +kernel
theorem dM_visit_88 : decode prog_9_method_40_code 88 = .ok (.iload 5, 2) := by decide +kernel
theorem dM_visit_90 : decode prog_9_method_40_code 90 = .ok (.baload, 1) := by decide +kernel
theorem dM_visit_91 : decode prog_9_method_40_code 91 = .ok (.ifCond .eq 29, 3) := by decide +kernel
theorem dM_visit_94 : decode prog_9_method_40_code 94 = .ok (.aload_n 0, 1) := by decide +kernel
theorem dM_visit_95 : decode prog_9_method_40_code 95 = .ok (.getfield 17, 3) := by decide +kernel
theorem dM_visit_98 : decode prog_9_method_40_code 98 = .ok (.iload 5, 2) := by decide +kernel
theorem dM_visit_100 : decode prog_9_method_40_code 100 = .ok (.iaload, 1) := by decide +kernel
theorem dM_visit_101 : decode prog_9_method_40_code 101 = .ok (.iconst (-1), 1) := by decide +kernel
theorem dM_visit_102 : decode prog_9_method_40_code 102 = .ok (.if_icmp .ne 18, 3) := by decide +kernel
theorem dM_visit_105 : decode prog_9_method_40_code 105 = .ok (.aload_n 0, 1) := by decide +kernel
theorem dM_visit_106 : decode prog_9_method_40_code 106 = .ok (.aload_n 0, 1) := by decide +kernel
theorem dM_visit_107 : decode prog_9_method_40_code 107 = .ok (.getfield 137, 3) := by decide +kernel
theorem dM_visit_110 : decode prog_9_method_40_code 110 = .ok (.iload 5, 2) := by decide +kernel
theorem dM_visit_112 : decode prog_9_method_40_code 112 = .ok (.iaload, 1) := by decide +kernel
theorem dM_visit_113 : decode prog_9_method_40_code 113 = .ok (.iconst 1, 1) := by decide +kernel
theorem dM_visit_114 : decode prog_9_method_40_code 114 = .ok (.iload 4, 2) := by decide +kernel
theorem dM_visit_116 : decode prog_9_method_40_code 116 = .ok (.ishl, 1) := by decide +kernel
theorem dM_visit_117 : decode prog_9_method_40_code 117 = .ok (.invokevirtual 278, 3) := by decide +kernel
theorem dM_visit_120 : decode prog_9_method_40_code 120 = .ok (.iinc 5 1, 3) := by decide +kernel
theorem dM_visit_123 : decode prog_9_method_40_code 123 = .ok (.goto (-51), 3) := by decide +kernel
theorem dM_visit_126 : decode prog_9_method_40_code 126 = .ok (.aload_n 0, 1) := by decide +kernel
theorem dM_visit_127 : decode prog_9_method_40_code 127 = .ok (.dup, 1) := by decide +kernel
theorem dM_visit_128 : decode prog_9_method_40_code 128 = .ok (.getfield 294, 3) := by decide +kernel
theorem dM_visit_131 : decode prog_9_method_40_code 131 = .ok (.iconst 1, 1) := by decide +kernel
theorem dM_visit_132 : decode prog_9_method_40_code 132 = .ok (.iadd, 1) := by decide +kernel
theorem dM_visit_133 : decode prog_9_method_40_code 133 = .ok (.putfield 294, 3) := by decide +kernel
theorem dM_visit_136 : decode prog_9_method_40_code 136 = .ok (.goto 207, 3) := by decide +kernel
theorem dM_visit_139 : decode prog_9_method_40_code 139 = .ok (.iload_n 2, 1) := by decide +kernel
theorem dM_visit_140 : decode prog_9_method_40_code 140 = .ok (.iconst 5, 1) := by decide +kernel
theorem dM_visit_141 : decode prog_9_method_40_code 141 = .ok (.if_icmp .ne 27, 3) := by decide +kernel
theorem dM_visit_144 : decode prog_9_method_40_code 144 = .ok (.aload_n 0, 1) := by decide +kernel
theorem dM_visit_145 : decode prog_9_method_40_code 145 = .ok (.getfield 75, 3) := by decide +kernel
theorem dM_visit_148 : decode prog_9_method_40_code 148 = .ok (.iload_n 1, 1) := by decide +kernel
theorem dM_visit_149 : decode prog_9_method_40_code 149 = .ok (.aload_n 0, 1) := by decide +kernel
theorem dM_visit_150 : decode prog_9_method_40_code 150 = .ok (.aload_n 0, 1) := by decide +kernel
theorem dM_visit_151 : decode prog_9_method_40_code 151 = .ok (.getfield 48, 3) := by decide +kernel
theorem dM_visit_154 : decode prog_9_method_40_code 154 = .ok (.aload_n 0, 1) := by decide +kernel
theorem dM_visit_155 : decode prog_9_method_40_code 155 = .ok (.getfield 60, 3) := by decide +kernel
theorem dM_visit_158 : decode prog_9_method_40_code 158 = .ok (.iload_n 1, 1) := by decide +kernel
theorem dM_visit_159 : decode prog_9_method_40_code 159 = .ok (.iaload, 1) := by decide +kernel
theorem dM_visit_160 : decode prog_9_method_40_code 160 = .ok (.iaload, 1) := by decide +kernel
theorem dM_visit_161 : decode prog_9_method_40_code 161 = .ok (.invokevirtual 309, 3) := by decide +kernel
theorem dM_visit_164 : decode prog_9_method_40_code 164 = .ok (.iastore, 1) := by decide +kernel
theorem dM_visit_165 : decode prog_9_method_40_code 165 = .ok (.goto 178, 3) := by decide +kernel
theorem dM_visit_168 : decode prog_9_method_40_code 168 = .ok (.iload_n 2, 1) := by decide +kernel
theorem dM_visit_169 : decode prog_9_method_40_code 169 = .ok (.iconst 1, 1) := by decide +kernel
theorem dM_visit_170 : decode prog_9_method_40_code 170 = .ok (.if_icmp .ne 24, 3) := by decide +kernel
theorem dM_visit_173 : decode prog_9_method_40_code 173 = .ok (.iload_n 3, 1) := by decide +kernel
theorem dM_visit_174 : decode prog_9_method_40_code 174 = .ok (.ifCond .ne 20, 3) := by decide +kernel
theorem dM_visit_177 : decode prog_9_method_40_code 177 = .ok (.aload_n 0, 1) := by decide +kernel
theorem dM_visit_178 : decode prog_9_method_40_code 178 = .ok (.getfield 78, 3) := by decide +kernel
theorem dM_visit_181 : decode prog_9_method_40_code 181 = .ok (.iload_n 1, 1) := by decide +kernel
theorem dM_visit_182 : decode prog_9_method_40_code 182 = .ok (.aload_n 0, 1) := by decide +kernel
theorem dM_visit_183 : decode prog_9_method_40_code 183 = .ok (.invokevirtual 253, 3) := by decide +kernel
theorem dM_visit_186 : decode prog_9_method_40_code 186 = .ok (.iastore, 1) := by decide +kernel
theorem dM_visit_187 : decode prog_9_method_40_code 187 = .ok (.aload_n 0, 1) := by decide +kernel
theorem dM_visit_188 : decode prog_9_method_40_code 188 = .ok (.getfield 69, 3) := by decide +kernel
theorem dM_visit_191 : decode prog_9_method_40_code 191 = .ok (.iload_n 1, 1) := by decide +kernel
theorem dM_visit_192 : decode prog_9_method_40_code 192 = .ok (.iaload, 1) := by decide +kernel
theorem dM_visit_193 : decode prog_9_method_40_code 193 = .ok (.ireturn, 1) := by decide +kernel
theorem dM_visit_194 : decode prog_9_method_40_code 194 = .ok (.iload_n 2, 1) := by decide +kernel
theorem dM_visit_195 : decode prog_9_method_40_code 195 = .ok (.iconst 1, 1) := by decide +kernel
theorem dM_visit_196 : decode prog_9_method_40_code 196 = .ok (.if_icmp .ne 33, 3) := by decide +kernel
theorem dM_visit_199 : decode prog_9_method_40_code 199 = .ok (.aload_n 0, 1) := by decide +kernel
theorem dM_visit_200 : decode prog_9_method_40_code 200 = .ok (.getfield 75, 3) := by decide +kernel
theorem dM_visit_203 : decode prog_9_method_40_code 203 = .ok (.iload_n 1, 1) := by decide +kernel
theorem dM_visit_204 : decode prog_9_method_40_code 204 = .ok (.aload_n 0, 1) := by decide +kernel
theorem dM_visit_205 : decode prog_9_method_40_code 205 = .ok (.aload_n 0, 1) := by decide +kernel
theorem dM_visit_206 : decode prog_9_method_40_code 206 = .ok (.getfield 78, 3) := by decide +kernel
theorem dM_visit_209 : decode prog_9_method_40_code 209 = .ok (.iload_n 1, 1) := by decide +kernel
theorem dM_visit_210 : decode prog_9_method_40_code 210 = .ok (.iaload, 1) := by decide +kernel
theorem dM_visit_211 : decode prog_9_method_40_code 211 = .ok (.aload_n 0, 1) := by decide +kernel
theorem dM_visit_212 : decode prog_9_method_40_code 212 = .ok (.getfield 75, 3) := by decide +kernel
theorem dM_visit_215 : decode prog_9_method_40_code 215 = .ok (.aload_n 0, 1) := by decide +kernel
theorem dM_visit_216 : decode prog_9_method_40_code 216 = .ok (.getfield 69, 3) := by decide +kernel
theorem dM_visit_219 : decode prog_9_method_40_code 219 = .ok (.iload_n 1, 1) := by decide +kernel
theorem dM_visit_220 : decode prog_9_method_40_code 220 = .ok (.iaload, 1) := by decide +kernel
theorem dM_visit_221 : decode prog_9_method_40_code 221 = .ok (.iaload, 1) := by decide +kernel
theorem dM_visit_222 : decode prog_9_method_40_code 222 = .ok (.invokevirtual 312, 3) := by decide +kernel
theorem dM_visit_225 : decode prog_9_method_40_code 225 = .ok (.iastore, 1) := by decide +kernel
theorem dM_visit_226 : decode prog_9_method_40_code 226 = .ok (.goto 117, 3) := by decide +kernel
theorem dM_visit_229 : decode prog_9_method_40_code 229 = .ok (.iload_n 3, 1) := by decide +kernel
theorem dM_visit_230 : decode prog_9_method_40_code 230 = .ok (.ifCond .ne 20, 3) := by decide +kernel
theorem dM_visit_233 : decode prog_9_method_40_code 233 = .ok (.aload_n 0, 1) := by decide +kernel
theorem dM_visit_234 : decode prog_9_method_40_code 234 = .ok (.getfield 93, 3) := by decide +kernel
theorem dM_visit_237 : decode prog_9_method_40_code 237 = .ok (.iload_n 1, 1) := by decide +kernel
theorem dM_visit_238 : decode prog_9_method_40_code 238 = .ok (.aload_n 0, 1) := by decide +kernel
theorem dM_visit_239 : decode prog_9_method_40_code 239 = .ok (.getfield 257, 3) := by decide +kernel
theorem dM_visit_242 : decode prog_9_method_40_code 242 = .ok (.iastore, 1) := by decide +kernel
theorem dM_visit_243 : decode prog_9_method_40_code 243 = .ok (.aload_n 0, 1) := by decide +kernel
theorem dM_visit_244 : decode prog_9_method_40_code 244 = .ok (.getfield 69, 3) := by decide +kernel
theorem dM_visit_247 : decode prog_9_method_40_code 247 = .ok (.iload_n 1, 1) := by decide +kernel
theorem dM_visit_248 : decode prog_9_method_40_code 248 = .ok (.iaload, 1) := by decide +kernel
theorem dM_visit_249 : decode prog_9_method_40_code 249 = .ok (.ireturn, 1) := by decide +kernel
theorem dM_visit_250 : decode prog_9_method_40_code 250 = .ok (.iload_n 3, 1) := by decide +kernel
theorem dM_visit_251 : decode prog_9_method_40_code 251 = .ok (.iconst 1, 1) := by decide +kernel
theorem dM_visit_252 : decode prog_9_method_40_code 252 = .ok (.if_icmp .ne 20, 3) := by decide +kernel
theorem dM_visit_255 : decode prog_9_method_40_code 255 = .ok (.iload_n 2, 1) := by decide +kernel
theorem dM_visit_256 : decode prog_9_method_40_code 256 = .ok (.iconst 3, 1) := by decide +kernel
theorem dM_visit_257 : decode prog_9_method_40_code 257 = .ok (.if_icmp .ne 8, 3) := by decide +kernel
theorem dM_visit_260 : decode prog_9_method_40_code 260 = .ok (.aload_n 0, 1) := by decide +kernel
theorem dM_visit_261 : decode prog_9_method_40_code 261 = .ok (.iload_n 1, 1) := by decide +kernel
theorem dM_visit_262 : decode prog_9_method_40_code 262 = .ok (.invokevirtual 316, 3) := by decide +kernel
theorem dM_visit_265 : decode prog_9_method_40_code 265 = .ok (.aload_n 0, 1) := by decide +kernel
theorem dM_visit_266 : decode prog_9_method_40_code 266 = .ok (.getfield 72, 3) := by decide +kernel
theorem dM_visit_269 : decode prog_9_method_40_code 269 = .ok (.iload_n 1, 1) := by decide +kernel
theorem dM_visit_270 : decode prog_9_method_40_code 270 = .ok (.iaload, 1) := by decide +kernel
theorem dM_visit_271 : decode prog_9_method_40_code 271 = .ok (.ireturn, 1) := by decide +kernel
theorem dM_visit_272 : decode prog_9_method_40_code 272 = .ok (.iload_n 2, 1) := by decide +kernel
theorem dM_visit_273 : decode prog_9_method_40_code 273 = .ok (.iconst 2, 1) := by decide +kernel
theorem dM_visit_274 : decode prog_9_method_40_code 274 = .ok (.if_icmp .ne 52, 3) := by decide +kernel
theorem dM_visit_277 : decode prog_9_method_40_code 277 = .ok (.aload_n 0, 1) := by decide +kernel
theorem dM_visit_278 : decode prog_9_method_40_code 278 = .ok (.getfield 75, 3) := by decide +kernel
theorem dM_visit_281 : decode prog_9_method_40_code 281 = .ok (.iload_n 1, 1) := by decide +kernel
theorem dM_visit_282 : decode prog_9_method_40_code 282 = .ok (.aload_n 0, 1) := by decide +kernel
theorem dM_visit_283 : decode prog_9_method_40_code 283 = .ok (.invokevirtual 253, 3) := by decide +kernel
theorem dM_visit_286 : decode prog_9_method_40_code 286 = .ok (.iastore, 1) := by decide +kernel
theorem dM_visit_287 : decode prog_9_method_40_code 287 = .ok (.aload_n 0, 1) := by decide +kernel
theorem dM_visit_288 : decode prog_9_method_40_code 288 = .ok (.aload_n 0, 1) := by decide +kernel
theorem dM_visit_289 : decode prog_9_method_40_code 289 = .ok (.getfield 75, 3) := by decide +kernel
theorem dM_visit_292 : decode prog_9_method_40_code 292 = .ok (.aload_n 0, 1) := by decide +kernel
theorem dM_visit_293 : decode prog_9_method_40_code 293 = .ok (.getfield 69, 3) := by decide +kernel
theorem dM_visit_296 : decode prog_9_method_40_code 296 = .ok (.iload_n 1, 1) := by decide +kernel
theorem dM_visit_297 : decode prog_9_method_40_code 297 = .ok (.iaload, 1) := by decide +kernel
theorem dM_visit_298 : decode prog_9_method_40_code 298 = .ok (.iaload, 1) := by decide +kernel
theorem dM_visit_299 : decode prog_9_method_40_code 299 = .ok (.aload_n 0, 1) := by decide +kernel
theorem dM_visit_300 : decode prog_9_method_40_code 300 = .ok (.aload_n 0, 1) := by decide +kernel
theorem dM_visit_301 : decode prog_9_method_40_code 301 = .ok (.getfield 75, 3) := by decide +kernel
theorem dM_visit_304 : decode prog_9_method_40_code 304 = .ok (.aload_n 0, 1) := by decide +kernel
theorem dM_visit_305 : decode prog_9_method_40_code 305 = .ok (.getfield 72, 3) := by decide +kernel
theorem dM_visit_308 : decode prog_9_method_40_code 308 = .ok (.iload_n 1, 1) := by decide +kernel
theorem dM_visit_309 : decode prog_9_method_40_code 309 = .ok (.iaload, 1) := by decide +kernel
theorem dM_visit_310 : decode prog_9_method_40_code 310 = .ok (.iaload, 1) := by decide +kernel
theorem dM_visit_311 : decode prog_9_method_40_code 311 = .ok (.aload_n 0, 1) := by decide +kernel
theorem dM_visit_312 : decode prog_9_method_40_code 312 = .ok (.getfield 75, 3) := by decide +kernel
theorem dM_visit_315 : decode prog_9_method_40_code 315 = .ok (.iload_n 1, 1) := by decide +kernel
theorem dM_visit_316 : decode prog_9_method_40_code 316 = .ok (.iaload, 1) := by decide +kernel
theorem dM_visit_317 : decode prog_9_method_40_code 317 = .ok (.invokevirtual 312, 3) := by decide +kernel
theorem dM_visit_320 : decode prog_9_method_40_code 320 = .ok (.invokevirtual 319, 3) := by decide +kernel
theorem dM_visit_323 : decode prog_9_method_40_code 323 = .ok (.goto 20, 3) := by decide +kernel
theorem dM_visit_326 : decode prog_9_method_40_code 326 = .ok (.aload_n 0, 1) := by decide +kernel
theorem dM_visit_327 : decode prog_9_method_40_code 327 = .ok (.getfield 75, 3) := by decide +kernel
theorem dM_visit_330 : decode prog_9_method_40_code 330 = .ok (.iload_n 1, 1) := by decide +kernel
theorem dM_visit_331 : decode prog_9_method_40_code 331 = .ok (.aload_n 0, 1) := by decide +kernel
theorem dM_visit_332 : decode prog_9_method_40_code 332 = .ok (.getfield 75, 3) := by decide +kernel
theorem dM_visit_335 : decode prog_9_method_40_code 335 = .ok (.aload_n 0, 1) := by decide +kernel
theorem dM_visit_336 : decode prog_9_method_40_code 336 = .ok (.getfield 72, 3) := by decide +kernel
theorem dM_visit_339 : decode prog_9_method_40_code 339 = .ok (.iload_n 1, 1) := by decide +kernel
theorem dM_visit_340 : decode prog_9_method_40_code 340 = .ok (.iaload, 1) := by decide +kernel
theorem dM_visit_341 : decode prog_9_method_40_code 341 = .ok (.iaload, 1) := by decide +kernel
theorem dM_visit_342 : decode prog_9_method_40_code 342 = .ok (.iastore, 1) := by decide +kernel
theorem dM_visit_343 : decode prog_9_method_40_code 343 = .ok (.iconst (-1), 1) := by decide +kernel
theorem dM_visit_344 : decode prog_9_method_40_code 344 = .ok (.ireturn, 1) := by decide +kernel
theorem dM_typeAll_0 : decode prog_9_method_41_code 0 = .ok (.iconst 1, 1) := by decide +kernel
theorem dM_typeAll_1 : decode prog_9_method_41_code 1 = .ok (.istore_n 1, 1) := by decide +kernel
theorem dM_typeAll_2 : decode prog_9_method_41_code 2 = .ok (.aload_n 0, 1) := by decide +kernel
theorem dM_typeAll_3 : decode prog_9_method_41_code 3 = .ok (.getfield 90, 3) := by decide +kernel
theorem dM_typeAll_6 : decode prog_9_method_41_code 6 = .ok (.iconst 0, 1) := by decide +kernel
theorem dM_typeAll_7 : decode prog_9_method_41_code 7 = .ok (.iconst 0, 1) := by decide +kernel
theorem dM_typeAll_8 : decode prog_9_method_41_code 8 = .ok (.iastore, 1) := by decide +kernel
theorem dM_typeAll_9 : decode prog_9_method_41_code 9 = .ok (.iload_n 1, 1) := by decide +kernel
theorem dM_typeAll_10 : decode prog_9_method_41_code 10 = .ok (.ifCond .le 46, 3) := by decide +kernel
theorem dM_typeAll_13 : decode prog_9_method_41_code 13 = .ok (.aload_n 0, 1) := by decide +kernel
theorem dM_typeAll_14 : decode prog_9_method_41_code 14 = .ok (.getfield 237, 3) := by decide +kernel
theorem dM_typeAll_17 : decode prog_9_method_41_code 17 = .ok (.ifCond .ne 39, 3) := by decide +kernel
theorem dM_typeAll_20 : decode prog_9_method_41_code 20 = .ok (.aload_n 0, 1) := by decide +kernel
theorem dM_typeAll_21 : decode prog_9_method_41_code 21 = .ok (.aload_n 0, 1) := by decide +kernel
theorem dM_typeAll_22 : decode prog_9_method_41_code 22 = .ok (.getfield 90, 3) := by decide +kernel
theorem dM_typeAll_25 : decode prog_9_method_41_code 25 = .ok (.iload_n 1, 1) := by decide +kernel
theorem dM_typeAll_26 : decode prog_9_method_41_code 26 = .ok (.iconst 1, 1) := by decide +kernel
theorem dM_typeAll_27 : decode prog_9_method_41_code 27 = .ok (.isub, 1) := by decide +kernel
theorem dM_typeAll_28 : decode prog_9_method_41_code 28 = .ok (.iaload, 1) := by decide +kernel
theorem dM_typeAll_29 : decode prog_9_method_41_code 29 = .ok (.invokevirtual 322, 3) := by decide +kernel
theorem dM_typeAll_32 : decode prog_9_method_41_code 32 = .ok (.istore_n 2, 1) := by decide +kernel
theorem dM_typeAll_33 : decode prog_9_method_41_code 33 = .ok (.iload_n 2, 1) := by decide +kernel
theorem dM_typeAll_34 : decode prog_9_method_41_code 34 = .ok (.ifCond .ge 9, 3) := by decide +kernel
theorem dM_typeAll_37 : decode prog_9_method_41_code 37 = .ok (.iinc 1 (-1), 3) := by decide +kernel
theorem dM_typeAll_40 : decode prog_9_method_41_code 40 = .ok (.goto 13, 3) := by decide +kernel
theorem dM_typeAll_43 : decode prog_9_method_41_code 43 = .ok (.aload_n 0, 1) := by decide +kernel
theorem dM_typeAll_44 : decode prog_9_method_41_code 44 = .ok (.getfield 90, 3) := by decide +kernel
theorem dM_typeAll_47 : decode prog_9_method_41_code 47 = .ok (.iload_n 1, 1) := by decide +kernel
theorem dM_typeAll_48 : decode prog_9_method_41_code 48 = .ok (.iload_n 2, 1) := by decide +kernel
theorem dM_typeAll_49 : decode prog_9_method_41_code 49 = .ok (.iastore, 1) := by decide +kernel
theorem dM_typeAll_50 : decode prog_9_method_41_code 50 = .ok (.iinc 1 1, 3) := by decide +kernel
theorem dM_typeAll_53 : decode prog_9_method_41_code 53 = .ok (.goto (-44), 3) := by decide +kernel
theorem dM_typeAll_56 : decode prog_9_method_41_code 56 = .ok (.return_, 1) := by decide +kernel
