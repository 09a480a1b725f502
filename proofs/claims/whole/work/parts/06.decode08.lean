theorem dM_visit_0 : decode prog_9_method_40_code 0 = .ok (.aload_n 0, 1) := by decide +kernel
theorem dM_visit_1 : decode prog_9_method_40_code 1 = .ok (.iload_n 1, 1) := by decide +kernel
theorem dM_visit_2 : decode prog_9_method_40_code 2 = .ok (.invokevirtual 227, 3) := by decide +kernel
theorem dM_visit_5 : decode prog_9_method_40_code 5 = .ok (.istore_n 2, 1) := by decide +kernel
theorem dM_visit_6 : decode prog_9_method_40_code 6 = .ok (.aload_n 0, 1) := by decide +kernel
theorem dM_visit_7 : decode prog_9_method_40_code 7 = .ok (.getfield 87, 3) := by decide +kernel
theorem dM_visit_10 : decode prog_9_method_40_code 10 = .ok (.iload_n 1, 1) := by decide +kernel
theorem dM_visit_11 : decode prog_9_method_40_code 11 = .ok (.iaload, 1) := by decide +kernel
theorem dM_visit_12 : decode prog_9_method_40_code 12 = .ok (.istore_n 3, 1) := by decide +kernel
theorem dM_visit_13 : decode prog_9_method_40_code 13 = .ok (.aload_n 0, 1) := by decide +kernel
theorem dM_visit_14 : decode prog_9_method_40_code 14 = .ok (.getfield 87, 3) := by decide +kernel
theorem dM_visit_17 : decode prog_9_method_40_code 17 = .ok (.iload_n 1, 1) := by decide +kernel
theorem dM_visit_18 : decode prog_9_method_40_code 18 = .ok (.iload_n 3, 1) := by decide +kernel
theorem dM_visit_19 : decode prog_9_method_40_code 19 = .ok (.iconst 1, 1) := by decide +kernel
theorem dM_visit_20 : decode prog_9_method_40_code 20 = .ok (.iadd, 1) := by decide +kernel
theorem dM_visit_21 : decode prog_9_method_40_code 21 = .ok (.iastore, 1) := by decide +kernel
theorem dM_visit_22 : decode prog_9_method_40_code 22 = .ok (.iload_n 2, 1) := by decide +kernel
theorem dM_visit_23 : decode prog_9_method_40_code 23 = .ok (.ifCond .ne 11, 3) := by decide +kernel
theorem dM_visit_26 : decode prog_9_method_40_code 26 = .ok (.aload_n 0, 1) := by decide +kernel
theorem dM_visit_27 : decode prog_9_method_40_code 27 = .ok (.iload_n 1, 1) := by decide +kernel
theorem dM_visit_28 : decode prog_9_method_40_code 28 = .ok (.invokevirtual 306, 3) := by decide +kernel
theorem dM_visit_31 : decode prog_9_method_40_code 31 = .ok (.goto 312, 3) := by decide +kernel
theorem dM_visit_34 : decode prog_9_method_40_code 34 = .ok (.iload_n 2, 1) := by decide +kernel
theorem dM_visit_35 : decode prog_9_method_40_code 35 = .ok (.iconst 4, 1) := by decide +kernel
theorem dM_visit_36 : decode prog_9_method_40_code 36 = .ok (.if_icmp .ne 103, 3) := by decide +kernel
theorem dM_visit_39 : decode prog_9_method_40_code 39 = .ok (.aload_n 0, 1) := by decide +kernel
theorem dM_visit_40 : decode prog_9_method_40_code 40 = .ok (.getfield 48, 3) := by decide +kernel
theorem dM_visit_43 : decode prog_9_method_40_code 43 = .ok (.aload_n 0, 1) := by decide +kernel
theorem dM_visit_44 : decode prog_9_method_40_code 44 = .ok (.getfield 60, 3) := by decide +kernel
theorem dM_visit_47 : decode prog_9_method_40_code 47 = .ok (.iload_n 1, 1) := by decide +kernel
theorem dM_visit_48 : decode prog_9_method_40_code 48 = .ok (.iaload, 1) := by decide +kernel
theorem dM_visit_49 : decode prog_9_method_40_code 49 = .ok (.iaload, 1) := by decide +kernel
theorem dM_visit_50 : decode prog_9_method_40_code 50 = .ok (.istore 4, 2) := by decide +kernel
theorem dM_visit_52 : decode prog_9_method_40_code 52 = .ok (.aload_n 0, 1) := by decide +kernel
theorem dM_visit_53 : decode prog_9_method_40_code 53 = .ok (.getfield 75, 3) := by decide +kernel
theorem dM_visit_56 : decode prog_9_method_40_code 56 = .ok (.iload_n 1, 1) := by decide +kernel
theorem dM_visit_57 : decode prog_9_method_40_code 57 = .ok (.aload_n 0, 1) := by decide +kernel
theorem dM_visit_58 : decode prog_9_method_40_code 58 = .ok (.aload_n 0, 1) := by decide +kernel
theorem dM_visit_59 : decode prog_9_method_40_code 59 = .ok (.getfield 32, 3) := by decide +kernel
theorem dM_visit_62 : decode prog_9_method_40_code 62 = .ok (.iload 4, 2) := by decide +kernel
theorem dM_visit_64 : decode prog_9_method_40_code 64 = .ok (.iaload, 1) := by decide +kernel
theorem dM_visit_65 : decode prog_9_method_40_code 65 = .ok (.invokevirtual 309, 3) := by decide +kernel
theorem dM_visit_68 : decode prog_9_method_40_code 68 = .ok (.iastore, 1) := by decide +kernel
theorem dM_visit_69 : decode prog_9_method_40_code 69 = .ok (.iconst 0, 1) := by decide +kernel
theorem dM_visit_70 : decode prog_9_method_40_code 70 = .ok (.istore 5, 2) := by decide +kernel
theorem dM_visit_72 : decode prog_9_method_40_code 72 = .ok (.iload 5, 2) := by decide +kernel
theorem dM_visit_74 : decode prog_9_method_40_code 74 = .ok (.aload_n 0, 1) := by decide +kernel
theorem dM_visit_75 : decode prog_9_method_40_code 75 = .ok (.getfield 32, 3) := by decide +kernel
theorem dM_visit_78 : decode prog_9_method_40_code 78 = .ok (.iload 4, 2) := by decide +kernel
theorem dM_visit_80 : decode prog_9_method_40_code 80 = .ok (.iaload, 1) := by decide +kernel
theorem dM_visit_81 : decode prog_9_method_40_code 81 = .ok (.if_icmp .gt 45, 3) := by decide +kernel
theorem dM_visit_84 : decode prog_9_method_40_code 84 = .ok (.aload_n 0, 1) := by decide +kernel
theorem dM_visit_85 : decode prog_9_method_40_code 85 = .ok (.getfield 140, 3) := by decide +kernel
theorem dM_visit_88 : decode prog_9_method_40_code 88 = .ok (.iload 5, 2) := by decide +kernel
theorem dM_visit_90 : decode prog_9_method_40_code 90 = .ok (.baload, 1) := by decide +kernel
theorem dM_visit_91 : decode prog_9_method_40_code 91 = .ok (.ifCond .eq 29, 3) := by decide +kernel
theorem dM_visit_94 : decode prog_9_method_40_code 94 = .ok (.aload_n 0, 1) := by decide +kernel
theorem dM_visit_95 : decode prog_9_method_40_code 95 = .ok (.getfield 17, 3) := by decide +kernel
theorem dM_visit_98 : decode prog_9_method_40_code 98 = .ok (.iload 5, 2) := by decide +kernel
theorem dM_visit_100 : decode prog_9_method_40_code 100 = .ok (.iaload, 1) := by decide +kernel
theorem dM_visit_101 : decode prog_9_method_40_code 101 = .ok (.iconst (-1), 1) := by decide +kernel
theorem dM_visit_102 : decode prog_9_method_40_code 102 = .ok (.if_icmp .ne 18, 3) := by decide +kernel
theorem dM_visit_105 : decode prog_9_method_40_code 105 = .ok (.aload_n 0, 1) := by decide +kernel
theorem dM_visit_106 : decode prog_9_method_40_code 106 = .ok (.aload_n 0, 1) := by decide +kernel
theorem dM_visit_107 : decode prog_9_method_40_code 107 = .ok (.getfield 137, 3) := by decide +kernel
theorem dM_visit_110 : decode prog_9_method_40_code 110 = .ok (.iload 5, 2) := by decide +kernel
theorem dM_visit_112 : decode prog_9_method_40_code 112 = .ok (.iaload, 1) := by decide +kernel
theorem dM_visit_113 : decode prog_9_method_40_code 113 = .ok (.iconst 1, 1) := by decide +kernel
theorem dM_visit_114 : decode prog_9_method_40_code 114 = .ok (.iload 4, 2) := by decide +kernel
theorem dM_visit_116 : decode prog_9_method_40_code 116 = .ok (.ishl, 1) := by decide +kernel
theorem dM_visit_117 : decode prog_9_method_40_code 117 = .ok (.invokevirtual 278, 3) := by decide +kernel
theorem dM_visit_120 : decode prog_9_method_40_code 120 = .ok (.iinc 5 1, 3) := by decide +kernel
theorem dM_visit_123 : decode prog_9_method_40_code 123 = .ok (.goto (-51), 3) := by decide +kernel
theorem dM_visit_126 : decode prog_9_method_40_code 126 = .ok (.aload_n 0, 1) := by decide +kernel
theorem dM_visit_127 : decode prog_9_method_40_code 127 = .ok (.dup, 1) := by decide +kernel
theorem dM_visit_128 : decode prog_9_method_40_code 128 = .ok (.getfield 294, 3) := by decide +kernel
theorem dM_visit_131 : decode prog_9_method_40_code 131 = .ok (.iconst 1, 1) := by decide +kernel
theorem dM_visit_132 : decode prog_9_method_40_code 132 = .ok (.iadd, 1) := by decide +kernel
theorem dM_visit_133 : decode prog_9_method_40_code 133 = .ok (.putfield 294, 3) := by decide +kernel
theorem dM_visit_136 : decode prog_9_method_40_code 136 = .ok (.goto 207, 3) := by decide +kernel
theorem dM_visit_139 : decode prog_9_method_40_code 139 = .ok (.iload_n 2, 1) := by decide +kernel
theorem dM_visit_140 : decode prog_9_method_40_code 140 = .ok (.iconst 5, 1) := by decide +kernel
theorem dM_visit_141 : decode prog_9_method_40_code 141 = .ok (.if_icmp .ne 27, 3) := by decide +kernel
theorem dM_visit_144 : decode prog_9_method_40_code 144 = .ok (.aload_n 0, 1) := by decide +kernel
theorem dM_visit_145 : decode prog_9_method_40_code 145 = .ok (.getfield 75, 3) := by decide +kernel
theorem dM_visit_148 : decode prog_9_method_40_code 148 = .ok (.iload_n 1, 1) := by decide +kernel
theorem dM_visit_149 : decode prog_9_method_40_code 149 = .ok (.aload_n 0, 1) := by decide +kernel
theorem dM_visit_150 : decode prog_9_method_40_code 150 = .ok (.aload_n 0, 1) := by decide +kernel
theorem dM_visit_151 : decode prog_9_method_40_code 151 = .ok (.getfield 48, 3) := by decide +kernel
theorem dM_visit_154 : decode prog_9_method_40_code 154 = .ok (.aload_n 0, 1) := by decide +kernel
theorem dM_visit_155 : decode prog_9_method_40_code 155 = .ok (.getfield 60, 3) := by decide +kernel
theorem dM_visit_158 : decode prog_9_method_40_code 158 = .ok (.iload_n 1, 1) := by decide +kernel
theorem dM_visit_159 : decode prog_9_method_40_code 159 = .ok (.iaload, 1) := by decide +kernel
theorem dM_visit_160 : decode prog_9_method_40_code 160 = .ok (.iaload, 1) := by decide +kernel
theorem dM_visit_161 : decode prog_9_method_40_code 161 = .ok (.invokevirtual 309, 3) := by decide +kernel
theorem dM_visit_164 : decode prog_9_method_40_code 164 = .ok (.iastore, 1) := by decide +kernel
theorem dM_visit_165 : decode prog_9_method_40_code 165 = .ok (.goto 178, 3) := by decide +kernel
theorem dM_visit_168 : decode prog_9_method_40_code 168 = .ok (.iload_n 2, 1) := by decide +kernel
theorem dM_visit_169 : decode prog_9_method_40_code 169 = .ok (.iconst 1, 1) := by decide +kernel
theorem dM_visit_170 : decode prog_9_method_40_code 170 = .ok (.if_icmp .ne 24, 3) := by decide +kernel
theorem dM_visit_173 : decode prog_9_method_40_code 173 = .ok (.iload_n 3, 1) := by decide +kernel
theorem dM_visit_174 : decode prog_9_method_40_code 174 = .ok (.ifCond .ne 20, 3) := by decide +kernel
theorem dM_visit_177 : decode prog_9_method_40_code 177 = .ok (.aload_n 0, 1) := by decide +kernel
theorem dM_visit_178 : decode prog_9_method_40_code 178 = .ok (.getfield 78, 3) := by decide +kernel
theorem dM_visit_181 : decode prog_9_method_40_code 181 = .ok (.iload_n 1, 1) := by decide +kernel
theorem dM_visit_182 : decode prog_9_method_40_code 182 = .ok (.aload_n 0, 1) := by decide +kernel
theorem dM_visit_183 : decode prog_9_method_40_code 183 = .ok (.invokevirtual 253, 3) := by decide +kernel
theorem dM_visit_186 : decode prog_9_method_40_code 186 = .ok (.iastore, 1) := by decide +kernel
theorem dM_visit_187 : decode prog_9_method_40_code 187 = .ok (.aload_n 0, 1) := by decide +kernel
theorem dM_visit_188 : decode prog_9_method_40_code 188 = .ok (.getfield 69, 3) := by decide +kernel
theorem dM_visit_191 : decode prog_9_method_40_code 191 = .ok (.iload_n 1, 1) := by decide +kernel
theorem dM_visit_192 : decode prog_9_method_40_code 192 = .ok (.iaload, 1) := by decide +kernel
theorem dM_visit_193 : decode prog_9_method_40_code 193 = .ok (.ireturn, 1) := by decide +kernel
theorem dM_visit_194 : decode prog_9_method_40_code 194 = .ok (.iload_n 2, 1) := by decide +kernel
theorem dM_visit_195 : decode prog_9_method_40_code 195 = .ok (.iconst 1, 1) := by decide +kernel
theorem dM_visit_196 : decode prog_9_method_40_code 196 = .ok (.if_icmp .ne 33, 3) := by decide +kernel
theorem dM_visit_199 : decode prog_9_method_40_code 199 = .ok (.aload_n 0, 1) := by decide +kernel
theorem dM_visit_200 : decode prog_9_method_40_code 200 = .ok (.getfield 75, 3) := by decide +kernel
theorem dM_visit_203 : decode prog_9_method_40_code 203 = .ok (.iload_n 1, 1) := by decide +kernel
theorem dM_visit_204 : decode prog_9_method_40_code 204 = .ok (.aload_n 0, 1) := by decide +kernel
theorem dM_visit_205 : decode prog_9_method_40_code 205 = .ok (.aload_n 0, 1) := by decide +kernel
theorem dM_visit_206 : decode prog_9_method_40_code 206 = .ok (.getfield 78, 3) := by decide +kernel
theorem dM_visit_209 : decode prog_9_method_40_code 209 = .ok (.iload_n 1, 1) := by decide +kernel
theorem dM_visit_210 : decode prog_9_method_40_code 210 = .ok (.iaload, 1) := by decide +kernel
theorem dM_visit_211 : decode prog_9_method_40_code 211 = .ok (.aload_n 0, 1) := by decide +kernel
theorem dM_visit_212 : decode prog_9_method_40_code 212 = .ok (.getfield 75, 3) := by decide +kernel
theorem dM_visit_215 : decode prog_9_method_40_code 215 = .ok (.aload_n 0, 1) := by decide +kernel
theorem dM_visit_216 : decode prog_9_method_40_code 216 = .ok (.getfield 69, 3) := by decide +kernel
theorem dM_visit_219 : decode prog_9_method_40_code 219 = .ok (.iload_n 1, 1) := by decide +kernel
theorem dM_visit_220 : decode prog_9_method_40_code 220 = .ok (.iaload, 1) := by decide +kernel
theorem dM_visit_221 : decode prog_9_method_40_code 221 = .ok (.iaload, 1) := by decide +kernel
theorem dM_visit_222 : decode prog_9_method_40_code 222 = .ok (.invokevirtual 312, 3) := by decide +kernel
theorem dM_visit_225 : decode prog_9_method_40_code 225 = .ok (.iastore, 1) := by decide +kernel
theorem dM_visit_226 : decode prog_9_method_40_code 226 = .ok (.goto 117, 3) := by decide +kernel
theorem dM_visit_229 : decode prog_9_method_40_code 229 = .ok (.iload_n 3, 1) := by decide +kernel
theorem dM_visit_230 : decode prog_9_method_40_code 230 = .ok (.ifCond .ne 20, 3) := by decide +kernel
theorem dM_visit_233 : decode prog_9_method_40_code 233 = .ok (.aload_n 0, 1) := by decide +kernel
theorem dM_visit_234 : decode prog_9_method_40_code 234 = .ok (.getfield 93, 3) := by decide +kernel
theorem dM_visit_237 : decode prog_9_method_40_code 237 = .ok (.iload_n 1, 1) := by decide +kernel
theorem dM_visit_238 : decode prog_9_method_40_code 238 = .ok (.aload_n 0, 1) := by decide +kernel
theorem dM_visit_239 : decode prog_9_method_40_code 239 = .ok (.getfield 257, 3) := by decide +kernel
theorem dM_visit_242 : decode prog_9_method_40_code 242 = .ok (.iastore, 1) := by decide +kernel
theorem dM_visit_243 : decode prog_9_method_40_code 243 = .ok (.aload_n 0, 1) := by decide +kernel
theorem dM_visit_244 : decode prog_9_method_40_code 244 = .ok (.getfield 69, 3) := by decide +kernel
theorem dM_visit_247 : decode prog_9_method_40_code 247 = .ok (.iload_n 1, 1) := by decide +kernel
theorem dM_visit_248 : decode prog_9_method_40_code 248 = .ok (.iaload, 1) := by decide +kernel
theorem dM_visit_249 : decode prog_9_method_40_code 249 = .ok (.ireturn, 1) := by decide +kernel
theorem dM_visit_250 : decode prog_9_method_40_code 250 = .ok (.iload_n 3, 1) := by decide +kernel
theorem dM_visit_251 : decode prog_9_method_40_code 251 = .ok (.iconst 1, 1) := by decide +kernel
theorem dM_visit_252 : decode prog_9_method_40_code 252 = .ok (.if_icmp .ne 20, 3) := by decide +kernel
theorem dM_visit_255 : decode prog_9_method_40_code 255 = .ok (.iload_n 2, 1) := by decide +kernel
theorem dM_visit_256 : decode prog_9_method_40_code 256 = .ok (.iconst 3, 1) := by decide +kernel
theorem dM_visit_257 : decode prog_9_method_40_code 257 = .ok (.if_icmp .ne 8, 3) := by decide +kernel
theorem dM_visit_260 : decode prog_9_method_40_code 260 = .ok (.aload_n 0, 1) := by decide +kernel
theorem dM_visit_261 : decode prog_9_method_40_code 261 = .ok (.iload_n 1, 1) := by decide +kernel
theorem dM_visit_262 : decode prog_9_method_40_code 262 = .ok (.invokevirtual 316, 3) := by decide +kernel
theorem dM_visit_265 : decode prog_9_method_40_code 265 = .ok (.aload_n 0, 1) := by decide +kernel
theorem dM_visit_266 : decode prog_9_method_40_code 266 = .ok (.getfield 72, 3) := by decide +kernel
theorem dM_visit_269 : decode prog_9_method_40_code 269 = .ok (.iload_n 1, 1) := by decide +kernel
theorem dM_visit_270 : decode prog_9_method_40_code 270 = .ok (.iaload, 1) := by decide +kernel
theorem dM_visit_271 : decode prog_9_method_40_code 271 = .ok (.ireturn, 1) := by decide +kernel
theorem dM_visit_272 : decode prog_9_method_40_code 272 = .ok (.iload_n 2, 1) := by decide +kernel
theorem dM_visit_273 : decode prog_9_method_40_code 273 = .ok (.iconst 2, 1) := by decide +kernel
theorem dM_visit_274 : decode prog_9_method_40_code 274 = .ok (.if_icmp .ne 52, 3) := by decide +kernel
theorem dM_visit_277 : decode prog_9_method_40_code 277 = .ok (.aload_n 0, 1) := by decide +kernel
theorem dM_visit_278 : decode prog_9_method_40_code 278 = .ok (.getfield 75, 3) := by decide +kernel
theorem dM_visit_281 : decode prog_9_method_40_code 281 = .ok (.iload_n 1, 1) := by decide +kernel
theorem dM_visit_282 : decode prog_9_method_40_code 282 = .ok (.aload_n 0, 1) := by decide +kernel
theorem dM_visit_283 : decode prog_9_method_40_code 283 = .ok (.invokevirtual 253, 3) := by decide +kernel
theorem dM_visit_286 : decode prog_9_method_40_code 286 = .ok (.iastore, 1) := by decide +kernel
theorem dM_visit_287 : decode prog_9_method_40_code 287 = .ok (.aload_n 0, 1) := by decide +kernel
theorem dM_visit_288 : decode prog_9_method_40_code 288 = .ok (.aload_n 0, 1) := by decide +kernel
theorem dM_visit_289 : decode prog_9_method_40_code 289 = .ok (.getfield 75, 3) := by decide +kernel
theorem dM_visit_292 : decode prog_9_method_40_code 292 = .ok (.aload_n 0, 1) := by decide +kernel
theorem dM_visit_293 : decode prog_9_method_40_code 293 = .ok (.getfield 69, 3) := by decide +kernel
theorem dM_visit_296 : decode prog_9_method_40_code 296 = .ok (.iload_n 1, 1) := by decide +kernel
theorem dM_visit_297 : decode prog_9_method_40_code 297 = .ok (.iaload, 1) := by decide +kernel
theorem dM_visit_298 : decode prog_9_method_40_code 298 = .ok (.iaload, 1) := by decide +kernel
theorem dM_visit_299 : decode prog_9_method_40_code 299 = .ok (.aload_n 0, 1) := by decide +kernel
theorem dM_visit_300 : decode prog_9_method_40_code 300 = .ok (.aload_n 0, 1) := by decide +kernel
theorem dM_visit_301 : decode prog_9_method_40_code 301 = .ok (.getfield 75, 3) := by decide +kernel
theorem dM_visit_304 : decode prog_9_method_40_code 304 = .ok (.aload_n 0, 1) := by decide +kernel
theorem dM_visit_305 : decode prog_9_method_40_code 305 = .ok (.getfield 72, 3) := by decide +kernel
theorem dM_visit_308 : decode prog_9_method_40_code 308 = .ok (.iload_n 1, 1) := by decide +kernel
theorem dM_visit_309 : decode prog_9_method_40_code 309 = .ok (.iaload, 1) := by decide +kernel
theorem dM_visit_310 : decode prog_9_method_40_code 310 = .ok (.iaload, 1) := by decide +kernel
theorem dM_visit_311 : decode prog_9_method_40_code 311 = .ok (.aload_n 0, 1) := by decide +kernel
theorem dM_visit_312 : decode prog_9_method_40_code 312 = .ok (.getfield 75, 3) := by decide +kernel
theorem dM_visit_315 : decode prog_9_method_40_code 315 = .ok (.iload_n 1, 1) := by decide +kernel
theorem dM_visit_316 : decode prog_9_method_40_code 316 = .ok (.iaload, 1) := by decide +kernel
theorem dM_visit_317 : decode prog_9_method_40_code 317 = .ok (.invokevirtual 312, 3) := by decide +kernel
theorem dM_visit_320 : decode prog_9_method_40_code 320 = .ok (.invokevirtual 319, 3) := by decide +kernel
theorem dM_visit_323 : decode prog_9_method_40_code 323 = .ok (.goto 20, 3) := by decide +kernel
theorem dM_visit_326 : decode prog_9_method_40_code 326 = .ok (.aload_n 0, 1) := by decide +kernel
theorem dM_visit_327 : decode prog_9_method_40_code 327 = .ok (.getfield 75, 3) := by decide +kernel
theorem dM_visit_330 : decode prog_9_method_40_code 330 = .ok (.iload_n 1, 1) := by decide +kernel
theorem dM_visit_331 : decode prog_9_method_40_code 331 = .ok (.aload_n 0, 1) := by decide +kernel
theorem dM_visit_332 : decode prog_9_method_40_code 332 = .ok (.getfield 75, 3) := by decide +kernel
theorem dM_visit_335 : decode prog_9_method_40_code 335 = .ok (.aload_n 0, 1) := by decide +kernel
theorem dM_visit_336 : decode prog_9_method_40_code 336 = .ok (.getfield 72, 3) := by decide +kernel
theorem dM_visit_339 : decode prog_9_method_40_code 339 = .ok (.iload_n 1, 1) := by decide +kernel
theorem dM_visit_340 : decode prog_9_method_40_code 340 = .ok (.iaload, 1) := by decide +kernel
theorem dM_visit_341 : decode prog_9_method_40_code 341 = .ok (.iaload, 1) := by decide +kernel
theorem dM_visit_342 : decode prog_9_method_40_code 342 = .ok (.iastore, 1) := by decide +kernel
theorem dM_visit_343 : decode prog_9_method_40_code 343 = .ok (.iconst (-1), 1) := by decide +kernel
theorem dM_visit_344 : decode prog_9_method_40_code 344 = .ok (.ireturn, 1) := by decide +kernel
theorem dM_typeAll_0 : decode prog_9_method_41_code 0 = .ok (.iconst 1, 1) := by decide +kernel
theorem dM_typeAll_1 : decode prog_9_method_41_code 1 = .ok (.istore_n 1, 1) := by decide +kernel
theorem dM_typeAll_2 : decode prog_9_method_41_code 2 = .ok (.aload_n 0, 1) := by decide +kernel
theorem dM_typeAll_3 : decode prog_9_method_41_code 3 = .ok (.getfield 90, 3) := by decide +kernel
theorem dM_typeAll_6 : decode prog_9_method_41_code 6 = .ok (.iconst 0, 1) := by decide +kernel
theorem dM_typeAll_7 : decode prog_9_method_41_code 7 = .ok (.iconst 0, 1) := by decide +kernel
theorem dM_typeAll_8 : decode prog_9_method_41_code 8 = .ok (.iastore, 1) := by decide +kernel
theorem dM_typeAll_9 : decode prog_9_method_41_code 9 = .ok (.iload_n 1, 1) := by decide +kernel
theorem dM_typeAll_10 : decode prog_9_method_41_code 10 = .ok (.ifCond .le 46, 3) := by decide +kernel
theorem dM_typeAll_13 : decode prog_9_method_41_code 13 = .ok (.aload_n 0, 1) := by decide +kernel
theorem dM_typeAll_14 : decode prog_9_method_41_code 14 = .ok (.getfield 237, 3) := by decide +kernel
theorem dM_typeAll_17 : decode prog_9_method_41_code 17 = .ok (.ifCond .ne 39, 3) := by decide +kernel
theorem dM_typeAll_20 : decode prog_9_method_41_code 20 = .ok (.aload_n 0, 1) := by decide +kernel
theorem dM_typeAll_21 : decode prog_9_method_41_code 21 = .ok (.aload_n 0, 1) := by decide +kernel
theorem dM_typeAll_22 : decode prog_9_method_41_code 22 = .ok (.getfield 90, 3) := by decide +kernel
theorem dM_typeAll_25 : decode prog_9_method_41_code 25 = .ok (.iload_n 1, 1) := by decide +kernel
theorem dM_typeAll_26 : decode prog_9_method_41_code 26 = .ok (.iconst 1, 1) := by decide +kernel
theorem dM_typeAll_27 : decode prog_9_method_41_code 27 = .ok (.isub, 1) := by decide +kernel
theorem dM_typeAll_28 : decode prog_9_method_41_code 28 = .ok (.iaload, 1) := by decide +kernel
theorem dM_typeAll_29 : decode prog_9_method_41_code 29 = .ok (.invokevirtual 322, 3) := by decide +kernel
theorem dM_typeAll_32 : decode prog_9_method_41_code 32 = .ok (.istore_n 2, 1) := by decide +kernel
theorem dM_typeAll_33 : decode prog_9_method_41_code 33 = .ok (.iload_n 2, 1) := by decide +kernel
theorem dM_typeAll_34 : decode prog_9_method_41_code 34 = .ok (.ifCond .ge 9, 3) := by decide +kernel
theorem dM_typeAll_37 : decode prog_9_method_41_code 37 = .ok (.iinc 1 (-1), 3) := by decide +kernel
theorem dM_typeAll_40 : decode prog_9_method_41_code 40 = .ok (.goto 13, 3) := by decide +kernel
theorem dM_typeAll_43 : decode prog_9_method_41_code 43 = .ok (.aload_n 0, 1) := by decide +kernel
theorem dM_typeAll_44 : decode prog_9_method_41_code 44 = .ok (.getfield 90, 3) := by decide +kernel
theorem dM_typeAll_47 : decode prog_9_method_41_code 47 = .ok (.iload_n 1, 1) := by decide +kernel
theorem dM_typeAll_48 : decode prog_9_method_41_code 48 = .ok (.iload_n 2, 1) := by decide +kernel
theorem dM_typeAll_49 : decode prog_9_method_41_code 49 = .ok (.iastore, 1) := by decide +kernel
theorem dM_typeAll_50 : decode prog_9_method_41_code 50 = .ok (.iinc 1 1, 3) := by decide +kernel
theorem dM_typeAll_53 : decode prog_9_method_41_code 53 = .ok (.goto (-44), 3) := by decide +kernel
theorem dM_typeAll_56 : decode prog_9_method_41_code 56 = .ok (.return_, 1) := by decide +kernel
theorem dM_sum_0 : decode prog_9_method_43_code 0 = .ok (.iload_n 0, 1) := by decide +kernel
theorem dM_sum_1 : decode prog_9_method_43_code 1 = .ok (.iload_n 1, 1) := by decide +kernel
theorem dM_sum_2 : decode prog_9_method_43_code 2 = .ok (.iadd, 1) := by decide +kernel
theorem dM_sum_3 : decode prog_9_method_43_code 3 = .ok (.ldc_w 337, 3) := by decide +kernel
theorem dM_sum_6 : decode prog_9_method_43_code 6 = .ok (.if_icmp .le 9, 3) := by decide +kernel
theorem dM_sum_9 : decode prog_9_method_43_code 9 = .ok (.ldc_w 337, 3) := by decide +kernel
theorem dM_sum_12 : decode prog_9_method_43_code 12 = .ok (.goto 6, 3) := by decide +kernel
theorem dM_sum_15 : decode prog_9_method_43_code 15 = .ok (.iload_n 0, 1) := by decide +kernel
theorem dM_sum_16 : decode prog_9_method_43_code 16 = .ok (.iload_n 1, 1) := by decide +kernel
theorem dM_sum_17 : decode prog_9_method_43_code 17 = .ok (.iadd, 1) := by decide +kernel
theorem dM_sum_18 : decode prog_9_method_43_code 18 = .ok (.ireturn, 1) := by decide +kernel
theorem dM_number_0 : decode prog_9_method_45_code 0 = .ok (.aload_n 0, 1) := by decide +kernel
theorem dM_number_1 : decode prog_9_method_45_code 1 = .ok (.iconst 0, 1) := by decide +kernel
theorem dM_number_2 : decode prog_9_method_45_code 2 = .ok (.putfield 350, 3) := by decide +kernel
theorem dM_number_5 : decode prog_9_method_45_code 5 = .ok (.aload_n 0, 1) := by decide +kernel
theorem dM_number_6 : decode prog_9_method_45_code 6 = .ok (.dup, 1) := by decide +kernel
theorem dM_number_7 : decode prog_9_method_45_code 7 = .ok (.getfield 247, 3) := by decide +kernel
theorem dM_number_10 : decode prog_9_method_45_code 10 = .ok (.iconst 1, 1) := by decide +kernel
theorem dM_number_11 : decode prog_9_method_45_code 11 = .ok (.iadd, 1) := by decide +kernel
theorem dM_number_12 : decode prog_9_method_45_code 12 = .ok (.putfield 247, 3) := by decide +kernel
theorem dM_number_15 : decode prog_9_method_45_code 15 = .ok (.iconst 1, 1) := by decide +kernel
theorem dM_number_16 : decode prog_9_method_45_code 16 = .ok (.istore_n 1, 1) := by decide +kernel
theorem dM_number_17 : decode prog_9_method_45_code 17 = .ok (.aload_n 0, 1) := by decide +kernel
theorem dM_number_18 : decode prog_9_method_45_code 18 = .ok (.getfield 131, 3) := by decide +kernel
theorem dM_number_21 : decode prog_9_method_45_code 21 = .ok (.iconst 0, 1) := by decide +kernel
theorem dM_number_22 : decode prog_9_method_45_code 22 = .ok (.aload_n 0, 1) := by decide +kernel
theorem dM_number_23 : decode prog_9_method_45_code 23 = .ok (.getfield 334, 3) := by decide +kernel
theorem dM_number_26 : decode prog_9_method_45_code 26 = .ok (.iastore, 1) := by decide +kernel
theorem dM_number_27 : decode prog_9_method_45_code 27 = .ok (.iload_n 1, 1) := by decide +kernel
theorem dM_number_28 : decode prog_9_method_45_code 28 = .ok (.ifCond .le 116, 3) := by decide +kernel
theorem dM_number_31 : decode prog_9_method_45_code 31 = .ok (.iinc 1 (-1), 3) := by decide +kernel
theorem dM_number_34 : decode prog_9_method_45_code 34 = .ok (.aload_n 0, 1) := by decide +kernel
theorem dM_number_35 : decode prog_9_method_45_code 35 = .ok (.getfield 131, 3) := by decide +kernel
theorem dM_number_38 : decode prog_9_method_45_code 38 = .ok (.iload_n 1, 1) := by decide +kernel
theorem dM_number_39 : decode prog_9_method_45_code 39 = .ok (.iaload, 1) := by decide +kernel
theorem dM_number_40 : decode prog_9_method_45_code 40 = .ok (.istore_n 2, 1) := by decide +kernel
theorem dM_number_41 : decode prog_9_method_45_code 41 = .ok (.aload_n 0, 1) := by decide +kernel
theorem dM_number_42 : decode prog_9_method_45_code 42 = .ok (.getfield 115, 3) := by decide +kernel
theorem dM_number_45 : decode prog_9_method_45_code 45 = .ok (.iload_n 2, 1) := by decide +kernel
theorem dM_number_46 : decode prog_9_method_45_code 46 = .ok (.iaload, 1) := by decide +kernel
theorem dM_number_47 : decode prog_9_method_45_code 47 = .ok (.aload_n 0, 1) := by decide +kernel
theorem dM_number_48 : decode prog_9_method_45_code 48 = .ok (.getfield 247, 3) := by decide +kernel
theorem dM_number_51 : decode prog_9_method_45_code 51 = .ok (.if_icmp .eq 90, 3) := by decide +kernel
theorem dM_number_54 : decode prog_9_method_45_code 54 = .ok (.aload_n 0, 1) := by decide +kernel
theorem dM_number_55 : decode prog_9_method_45_code 55 = .ok (.getfield 115, 3) := by decide +kernel
theorem dM_number_58 : decode prog_9_method_45_code 58 = .ok (.iload_n 2, 1) := by decide +kernel
theorem dM_number_59 : decode prog_9_method_45_code 59 = .ok (.aload_n 0, 1) := by decide +kernel
theorem dM_number_60 : decode prog_9_method_45_code 60 = .ok (.getfield 247, 3) := by decide +kernel
theorem dM_number_63 : decode prog_9_method_45_code 63 = .ok (.iastore, 1) := by decide +kernel
theorem dM_number_64 : decode prog_9_method_45_code 64 = .ok (.aload_n 0, 1) := by decide +kernel
theorem dM_number_65 : decode prog_9_method_45_code 65 = .ok (.getfield 149, 3) := by decide +kernel
theorem dM_number_68 : decode prog_9_method_45_code 68 = .ok (.iload_n 2, 1) := by decide +kernel
theorem dM_number_69 : decode prog_9_method_45_code 69 = .ok (.iaload, 1) := by decide +kernel
theorem dM_number_70 : decode prog_9_method_45_code 70 = .ok (.ifCond .ge 23, 3) := by decide +kernel
theorem dM_number_73 : decode prog_9_method_45_code 73 = .ok (.aload_n 0, 1) := by decide +kernel
theorem dM_number_74 : decode prog_9_method_45_code 74 = .ok (.getfield 167, 3) := by decide +kernel
theorem dM_number_77 : decode prog_9_method_45_code 77 = .ok (.iload_n 2, 1) := by decide +kernel
theorem dM_number_78 : decode prog_9_method_45_code 78 = .ok (.aload_n 0, 1) := by decide +kernel
theorem dM_number_79 : decode prog_9_method_45_code 79 = .ok (.getfield 350, 3) := by decide +kernel
theorem dM_number_82 : decode prog_9_method_45_code 82 = .ok (.iastore, 1) := by decide +kernel
theorem dM_number_83 : decode prog_9_method_45_code 83 = .ok (.aload_n 0, 1) := by decide +kernel
theorem dM_number_84 : decode prog_9_method_45_code 84 = .ok (.dup, 1) := by decide +kernel
theorem dM_number_85 : decode prog_9_method_45_code 85 = .ok (.getfield 350, 3) := by decide +kernel
theorem dM_number_88 : decode prog_9_method_45_code 88 = .ok (.iconst 1, 1) := by decide +kernel
theorem dM_number_89 : decode prog_9_method_45_code 89 = .ok (.iadd, 1) := by decide +kernel
theorem dM_number_90 : decode prog_9_method_45_code 90 = .ok (.putfield 350, 3) := by decide +kernel
theorem dM_number_93 : decode prog_9_method_45_code 93 = .ok (.aload_n 0, 1) := by decide +kernel
theorem dM_number_94 : decode prog_9_method_45_code 94 = .ok (.getfield 155, 3) := by decide +kernel
theorem dM_number_97 : decode prog_9_method_45_code 97 = .ok (.iload_n 2, 1) := by decide +kernel
theorem dM_number_98 : decode prog_9_method_45_code 98 = .ok (.iaload, 1) := by decide +kernel
theorem dM_number_99 : decode prog_9_method_45_code 99 = .ok (.ifCond .lt 18, 3) := by decide +kernel
theorem dM_number_102 : decode prog_9_method_45_code 102 = .ok (.aload_n 0, 1) := by decide +kernel
theorem dM_number_103 : decode prog_9_method_45_code 103 = .ok (.getfield 131, 3) := by decide +kernel
theorem dM_number_106 : decode prog_9_method_45_code 106 = .ok (.iload_n 1, 1) := by decide +kernel
theorem dM_number_107 : decode prog_9_method_45_code 107 = .ok (.aload_n 0, 1) := by decide +kernel
theorem dM_number_108 : decode prog_9_method_45_code 108 = .ok (.getfield 155, 3) := by decide +kernel
theorem dM_number_111 : decode prog_9_method_45_code 111 = .ok (.iload_n 2, 1) := by decide +kernel
theorem dM_number_112 : decode prog_9_method_45_code 112 = .ok (.iaload, 1) := by decide +kernel
theorem dM_number_113 : decode prog_9_method_45_code 113 = .ok (.iastore, 1) := by decide +kernel
theorem dM_number_114 : decode prog_9_method_45_code 114 = .ok (.iinc 1 1, 3) := by decide +kernel
theorem dM_number_117 : decode prog_9_method_45_code 117 = .ok (.aload_n 0, 1) := by decide +kernel
theorem dM_number_118 : decode prog_9_method_45_code 118 = .ok (.getfield 152, 3) := by decide +kernel
theorem dM_number_121 : decode prog_9_method_45_code 121 = .ok (.iload_n 2, 1) := by decide +kernel
theorem dM_number_122 : decode prog_9_method_45_code 122 = .ok (.iaload, 1) := by decide +kernel
theorem dM_number_123 : decode prog_9_method_45_code 123 = .ok (.ifCond .lt 18, 3) := by decide +kernel
theorem dM_number_126 : decode prog_9_method_45_code 126 = .ok (.aload_n 0, 1) := by decide +kernel
theorem dM_number_127 : decode prog_9_method_45_code 127 = .ok (.getfield 131, 3) := by decide +kernel
theorem dM_number_130 : decode prog_9_method_45_code 130 = .ok (.iload_n 1, 1) := by decide +kernel
theorem dM_number_131 : decode prog_9_method_45_code 131 = .ok (.aload_n 0, 1) := by decide +kernel
theorem dM_number_132 : decode prog_9_method_45_code 132 = .ok (.getfield 152, 3) := by decide +kernel
theorem dM_number_135 : decode prog_9_method_45_code 135 = .ok (.iload_n 2, 1) := by decide +kernel
theorem dM_number_136 : decode prog_9_method_45_code 136 = .ok (.iaload, 1) := by decide +kernel
theorem dM_number_137 : decode prog_9_method_45_code 137 = .ok (.iastore, 1) := by decide +kernel
theorem dM_number_138 : decode prog_9_method_45_code 138 = .ok (.iinc 1 1, 3) := by decide +kernel
theorem dM_number_141 : decode prog_9_method_45_code 141 = .ok (.goto (-114), 3) := by decide +kernel
theorem dM_number_144 : decode prog_9_method_45_code 144 = .ok (.iconst 0, 1) := by decide +kernel
theorem dM_number_145 : decode prog_9_method_45_code 145 = .ok (.istore_n 2, 1) := by decide +kernel
theorem dM_number_146 : decode prog_9_method_45_code 146 = .ok (.iload_n 2, 1) := by decide +kernel
theorem dM_number_147 : decode prog_9_method_45_code 147 = .ok (.aload_n 0, 1) := by decide +kernel
theorem dM_number_148 : decode prog_9_method_45_code 148 = .ok (.getfield 250, 3) := by decide +kernel
theorem dM_number_151 : decode prog_9_method_45_code 151 = .ok (.if_icmp .ge 61, 3) := by decide +kernel
theorem dM_number_154 : decode prog_9_method_45_code 154 = .ok (.aload_n 0, 1) := by decide +kernel
theorem dM_number_155 : decode prog_9_method_45_code 155 = .ok (.getfield 149, 3) := by decide +kernel
theorem dM_number_158 : decode prog_9_method_45_code 158 = .ok (.aload_n 0, 1) := by decide +kernel
theorem dM_number_159 : decode prog_9_method_45_code 159 = .ok (.getfield 134, 3) := by decide +kernel
theorem dM_number_162 : decode prog_9_method_45_code 162 = .ok (.iload_n 2, 1) := by decide +kernel
theorem dM_number_163 : decode prog_9_method_45_code 163 = .ok (.iaload, 1) := by decide +kernel
theorem dM_number_164 : decode prog_9_method_45_code 164 = .ok (.aload_n 0, 1) := by decide +kernel
theorem dM_number_165 : decode prog_9_method_45_code 165 = .ok (.getfield 149, 3) := by decide +kernel
theorem dM_number_168 : decode prog_9_method_45_code 168 = .ok (.aload_n 0, 1) := by decide +kernel
theorem dM_number_169 : decode prog_9_method_45_code 169 = .ok (.getfield 134, 3) := by decide +kernel
theorem dM_number_172 : decode prog_9_method_45_code 172 = .ok (.iload_n 2, 1) := by decide +kernel
theorem dM_number_173 : decode prog_9_method_45_code 173 = .ok (.iaload, 1) := by decide +kernel
theorem dM_number_174 : decode prog_9_method_45_code 174 = .ok (.iaload, 1) := by decide +kernel
theorem dM_number_175 : decode prog_9_method_45_code 175 = .ok (.ifCond .ge 19, 3) := by decide +kernel
theorem dM_number_178 : decode prog_9_method_45_code 178 = .ok (.iconst (-1), 1) := by decide +kernel
theorem dM_number_179 : decode prog_9_method_45_code 179 = .ok (.aload_n 0, 1) := by decide +kernel
theorem dM_number_180 : decode prog_9_method_45_code 180 = .ok (.getfield 167, 3) := by decide +kernel
theorem dM_number_183 : decode prog_9_method_45_code 183 = .ok (.aload_n 0, 1) := by decide +kernel
theorem dM_number_184 : decode prog_9_method_45_code 184 = .ok (.getfield 134, 3) := by decide +kernel
theorem dM_number_187 : decode prog_9_method_45_code 187 = .ok (.iload_n 2, 1) := by decide +kernel
theorem dM_number_188 : decode prog_9_method_45_code 188 = .ok (.iaload, 1) := by decide +kernel
theorem dM_number_189 : decode prog_9_method_45_code 189 = .ok (.iaload, 1) := by decide +kernel
theorem dM_number_190 : decode prog_9_method_45_code 190 = .ok (.isub, 1) := by decide +kernel
theorem dM_number_191 : decode prog_9_method_45_code 191 = .ok (.goto 14, 3) := by decide +kernel
theorem dM_number_194 : decode prog_9_method_45_code 194 = .ok (.aload_n 0, 1) := by decide +kernel
theorem dM_number_195 : decode prog_9_method_45_code 195 = .ok (.getfield 149, 3) := by decide +kernel
theorem dM_number_198 : decode prog_9_method_45_code 198 = .ok (.aload_n 0, 1) := by decide +kernel
theorem dM_number_199 : decode prog_9_method_45_code 199 = .ok (.getfield 134, 3) := by decide +kernel
theorem dM_number_202 : decode prog_9_method_45_code 202 = .ok (.iload_n 2, 1) := by decide +kernel
theorem dM_number_203 : decode prog_9_method_45_code 203 = .ok (.iaload, 1) := by decide +kernel
theorem dM_number_204 : decode prog_9_method_45_code 204 = .ok (.iaload, 1) := by decide +kernel
theorem dM_number_205 : decode prog_9_method_45_code 205 = .ok (.iastore, 1) := by decide +kernel
theorem dM_number_206 : decode prog_9_method_45_code 206 = .ok (.iinc 2 1, 3) := by decide +kernel
theorem dM_number_209 : decode prog_9_method_45_code 209 = .ok (.goto (-63), 3) := by decide +kernel
theorem dM_number_212 : decode prog_9_method_45_code 212 = .ok (.return_, 1) := by decide +kernel
