theorem dM_drive_0 : decode prog_9_method_32_code 0 = .ok (.iconst 0, 1) := by decide +kernel
theorem dM_drive_1 : decode prog_9_method_32_code 1 = .ok (.istore_n 2, 1) := by decide +kernel
theorem dM_drive_2 : decode prog_9_method_32_code 2 = .ok (.aload_n 0, 1) := by decide +kernel
theorem dM_drive_3 : decode prog_9_method_32_code 3 = .ok (.iconst 0, 1) := by decide +kernel
theorem dM_drive_4 : decode prog_9_method_32_code 4 = .ok (.putfield 250, 3) := by decide +kernel
theorem dM_drive_7 : decode prog_9_method_32_code 7 = .ok (.aload_n 0, 1) := by decide +kernel
theorem dM_drive_8 : decode prog_9_method_32_code 8 = .ok (.dup, 1) := by decide +kernel
theorem dM_drive_9 : decode prog_9_method_32_code 9 = .ok (.getfield 247, 3) := by decide +kernel
theorem dM_drive_12 : decode prog_9_method_32_code 12 = .ok (.iconst 1, 1) := by decide +kernel
theorem dM_drive_13 : decode prog_9_method_32_code 13 = .ok (.iadd, 1) := by decide +kernel
theorem dM_drive_14 : decode prog_9_method_32_code 14 = .ok (.putfield 247, 3) := by decide +kernel
theorem dM_drive_17 : decode prog_9_method_32_code 17 = .ok (.iload_n 1, 1) := by decide +kernel
theorem dM_drive_18 : decode prog_9_method_32_code 18 = .ok (.istore_n 3, 1) := by decide +kernel
theorem dM_drive_19 : decode prog_9_method_32_code 19 = .ok (.iload_n 3, 1) := by decide +kernel
theorem dM_drive_20 : decode prog_9_method_32_code 20 = .ok (.aload_n 0, 1) := by decide +kernel
theorem dM_drive_21 : decode prog_9_method_32_code 21 = .ok (.getfield 257, 3) := by decide +kernel
theorem dM_drive_24 : decode prog_9_method_32_code 24 = .ok (.if_icmp .ge 53, 3) := by decide +kernel
theorem dM_drive_27 : decode prog_9_method_32_code 27 = .ok (.aload_n 0, 1) := by decide +kernel
theorem dM_drive_28 : decode prog_9_method_32_code 28 = .ok (.aload_n 0, 1) := by decide +kernel
theorem dM_drive_29 : decode prog_9_method_32_code 29 = .ok (.getfield 143, 3) := by decide +kernel
theorem dM_drive_32 : decode prog_9_method_32_code 32 = .ok (.iload_n 3, 1) := by decide +kernel
theorem dM_drive_33 : decode prog_9_method_32_code 33 = .ok (.iaload, 1) := by decide +kernel
theorem dM_drive_34 : decode prog_9_method_32_code 34 = .ok (.invokevirtual 241, 3) := by decide +kernel
theorem dM_drive_37 : decode prog_9_method_32_code 37 = .ok (.istore 4, 2) := by decide +kernel
theorem dM_drive_39 : decode prog_9_method_32_code 39 = .ok (.aload_n 0, 1) := by decide +kernel
theorem dM_drive_40 : decode prog_9_method_32_code 40 = .ok (.getfield 124, 3) := by decide +kernel
theorem dM_drive_43 : decode prog_9_method_32_code 43 = .ok (.iload 4, 2) := by decide +kernel
theorem dM_drive_45 : decode prog_9_method_32_code 45 = .ok (.aload_n 0, 1) := by decide +kernel
theorem dM_drive_46 : decode prog_9_method_32_code 46 = .ok (.getfield 124, 3) := by decide +kernel
theorem dM_drive_49 : decode prog_9_method_32_code 49 = .ok (.iload 4, 2) := by decide +kernel
theorem dM_drive_51 : decode prog_9_method_32_code 51 = .ok (.iaload, 1) := by decide +kernel
theorem dM_drive_52 : decode prog_9_method_32_code 52 = .ok (.aload_n 0, 1) := by decide +kernel
theorem dM_drive_53 : decode prog_9_method_32_code 53 = .ok (.getfield 146, 3) := by decide +kernel
theorem dM_drive_56 : decode prog_9_method_32_code 56 = .ok (.iload_n 3, 1) := by decide +kernel
theorem dM_drive_57 : decode prog_9_method_32_code 57 = .ok (.iaload, 1) := by decide +kernel
theorem dM_drive_58 : decode prog_9_method_32_code 58 = .ok (.ior, 1) := by decide +kernel
theorem dM_drive_59 : decode prog_9_method_32_code 59 = .ok (.iastore, 1) := by decide +kernel
theorem dM_drive_60 : decode prog_9_method_32_code 60 = .ok (.aload_n 0, 1) := by decide +kernel
theorem dM_drive_61 : decode prog_9_method_32_code 61 = .ok (.getfield 131, 3) := by decide +kernel
theorem dM_drive_64 : decode prog_9_method_32_code 64 = .ok (.iload_n 2, 1) := by decide +kernel
theorem dM_drive_65 : decode prog_9_method_32_code 65 = .ok (.iload 4, 2) := by decide +kernel
theorem dM_drive_67 : decode prog_9_method_32_code 67 = .ok (.iastore, 1) := by decide +kernel
theorem dM_drive_68 : decode prog_9_method_32_code 68 = .ok (.iinc 2 1, 3) := by decide +kernel
theorem dM_drive_71 : decode prog_9_method_32_code 71 = .ok (.iinc 3 1, 3) := by decide +kernel
theorem dM_drive_74 : decode prog_9_method_32_code 74 = .ok (.goto (-55), 3) := by decide +kernel
theorem dM_drive_77 : decode prog_9_method_32_code 77 = .ok (.iload_n 2, 1) := by decide +kernel
theorem dM_drive_78 : decode prog_9_method_32_code 78 = .ok (.ifCond .le 316, 3) := by decide +kernel
theorem dM_drive_81 : decode prog_9_method_32_code 81 = .ok (.iinc 2 (-1), 3) := by decide +kernel
theorem dM_drive_84 : decode prog_9_method_32_code 84 = .ok (.aload_n 0, 1) := by decide +kernel
theorem dM_drive_85 : decode prog_9_method_32_code 85 = .ok (.getfield 131, 3) := by decide +kernel
theorem dM_drive_88 : decode prog_9_method_32_code 88 = .ok (.iload_n 2, 1) := by decide +kernel
theorem dM_drive_89 : decode prog_9_method_32_code 89 = .ok (.iaload, 1) := by decide +kernel
theorem dM_drive_90 : decode prog_9_method_32_code 90 = .ok (.istore_n 3, 1) := by decide +kernel
theorem dM_drive_91 : decode prog_9_method_32_code 91 = .ok (.aload_n 0, 1) := by decide +kernel
theorem dM_drive_92 : decode prog_9_method_32_code 92 = .ok (.getfield 115, 3) := by decide +kernel
theorem dM_drive_95 : decode prog_9_method_32_code 95 = .ok (.iload_n 3, 1) := by decide +kernel
theorem dM_drive_96 : decode prog_9_method_32_code 96 = .ok (.iaload, 1) := by decide +kernel
theorem dM_drive_97 : decode prog_9_method_32_code 97 = .ok (.aload_n 0, 1) := by decide +kernel
theorem dM_drive_98 : decode prog_9_method_32_code 98 = .ok (.getfield 247, 3) := by decide +kernel
theorem dM_drive_101 : decode prog_9_method_32_code 101 = .ok (.if_icmp .eq 33, 3) := by decide +kernel
theorem dM_drive_104 : decode prog_9_method_32_code 104 = .ok (.aload_n 0, 1) := by decide +kernel
theorem dM_drive_105 : decode prog_9_method_32_code 105 = .ok (.getfield 115, 3) := by decide +kernel
theorem dM_drive_108 : decode prog_9_method_32_code 108 = .ok (.iload_n 3, 1) := by decide +kernel
theorem dM_drive_109 : decode prog_9_method_32_code 109 = .ok (.aload_n 0, 1) := by decide +kernel
theorem dM_drive_110 : decode prog_9_method_32_code 110 = .ok (.getfield 247, 3) := by decide +kernel
theorem dM_drive_113 : decode prog_9_method_32_code 113 = .ok (.iastore, 1) := by decide +kernel
theorem dM_drive_114 : decode prog_9_method_32_code 114 = .ok (.aload_n 0, 1) := by decide +kernel
theorem dM_drive_115 : decode prog_9_method_32_code 115 = .ok (.getfield 134, 3) := by decide +kernel
theorem dM_drive_118 : decode prog_9_method_32_code 118 = .ok (.aload_n 0, 1) := by decide +kernel
theorem dM_drive_119 : decode prog_9_method_32_code 119 = .ok (.getfield 250, 3) := by decide +kernel
theorem dM_drive_122 : decode prog_9_method_32_code 122 = .ok (.iload_n 3, 1) := by decide +kernel
theorem dM_drive_123 : decode prog_9_method_32_code 123 = .ok (.iastore, 1) := by decide +kernel
theorem dM_drive_124 : decode prog_9_method_32_code 124 = .ok (.aload_n 0, 1) := by decide +kernel
theorem dM_drive_125 : decode prog_9_method_32_code 125 = .ok (.dup, 1) := by decide +kernel
theorem dM_drive_126 : decode prog_9_method_32_code 126 = .ok (.getfield 250, 3) := by decide +kernel
theorem dM_drive_129 : decode prog_9_method_32_code 129 = .ok (.iconst 1, 1) := by decide +kernel
theorem dM_drive_130 : decode prog_9_method_32_code 130 = .ok (.iadd, 1) := by decide +kernel
theorem dM_drive_131 : decode prog_9_method_32_code 131 = .ok (.putfield 250, 3) := by decide +kernel
theorem dM_drive_134 : decode prog_9_method_32_code 134 = .ok (.aload_n 0, 1) := by decide +kernel
theorem dM_drive_135 : decode prog_9_method_32_code 135 = .ok (.getfield 124, 3) := by decide +kernel
theorem dM_drive_138 : decode prog_9_method_32_code 138 = .ok (.iload_n 3, 1) := by decide +kernel
theorem dM_drive_139 : decode prog_9_method_32_code 139 = .ok (.iaload, 1) := by decide +kernel
theorem dM_drive_140 : decode prog_9_method_32_code 140 = .ok (.aload_n 0, 1) := by decide +kernel
theorem dM_drive_141 : decode prog_9_method_32_code 141 = .ok (.getfield 127, 3) := by decide +kernel
theorem dM_drive_144 : decode prog_9_method_32_code 144 = .ok (.iload_n 3, 1) := by decide +kernel
theorem dM_drive_145 : decode prog_9_method_32_code 145 = .ok (.iaload, 1) := by decide +kernel
theorem dM_drive_146 : decode prog_9_method_32_code 146 = .ok (.iconst (-1), 1) := by decide +kernel
theorem dM_drive_147 : decode prog_9_method_32_code 147 = .ok (.ixor, 1) := by decide +kernel
theorem dM_drive_148 : decode prog_9_method_32_code 148 = .ok (.iand, 1) := by decide +kernel
theorem dM_drive_149 : decode prog_9_method_32_code 149 = .ok (.istore 4, 2) := by decide +kernel
theorem dM_drive_151 : decode prog_9_method_32_code 151 = .ok (.aload_n 0, 1) := by decide +kernel
theorem dM_drive_152 : decode prog_9_method_32_code 152 = .ok (.getfield 127, 3) := by decide +kernel
theorem dM_drive_155 : decode prog_9_method_32_code 155 = .ok (.iload_n 3, 1) := by decide +kernel
theorem dM_drive_156 : decode prog_9_method_32_code 156 = .ok (.aload_n 0, 1) := by decide +kernel
theorem dM_drive_157 : decode prog_9_method_32_code 157 = .ok (.getfield 124, 3) := by decide +kernel
theorem dM_drive_160 : decode prog_9_method_32_code 160 = .ok (.iload_n 3, 1) := by decide +kernel
theorem dM_drive_161 : decode prog_9_method_32_code 161 = .ok (.iaload, 1) := by decide +kernel
theorem dM_drive_162 : decode prog_9_method_32_code 162 = .ok (.iastore, 1) := by decide +kernel
theorem dM_drive_163 : decode prog_9_method_32_code 163 = .ok (.iconst 0, 1) := by decide +kernel
theorem dM_drive_164 : decode prog_9_method_32_code 164 = .ok (.istore 5, 2) := by decide +kernel
theorem dM_drive_166 : decode prog_9_method_32_code 166 = .ok (.iconst 0, 1) := by decide +kernel
theorem dM_drive_167 : decode prog_9_method_32_code 167 = .ok (.istore 6, 2) := by decide +kernel
theorem dM_drive_169 : decode prog_9_method_32_code 169 = .ok (.iconst 0, 1) := by decide +kernel
theorem dM_drive_170 : decode prog_9_method_32_code 170 = .ok (.istore 7, 2) := by decide +kernel
theorem dM_drive_172 : decode prog_9_method_32_code 172 = .ok (.iload 7, 2) := by decide +kernel
theorem dM_drive_174 : decode prog_9_method_32_code 174 = .ok (.aload_n 0, 1) := by decide +kernel
theorem dM_drive_175 : decode prog_9_method_32_code 175 = .ok (.getfield 190, 3) := by decide +kernel
theorem dM_drive_178 : decode prog_9_method_32_code 178 = .ok (.if_icmp .ge 123, 3) := by decide +kernel
theorem dM_drive_181 : decode prog_9_method_32_code 181 = .ok (.aload_n 0, 1) := by decide +kernel
theorem dM_drive_182 : decode prog_9_method_32_code 182 = .ok (.getfield 106, 3) := by decide +kernel
theorem dM_drive_185 : decode prog_9_method_32_code 185 = .ok (.iload_n 3, 1) := by decide +kernel
theorem dM_drive_186 : decode prog_9_method_32_code 186 = .ok (.iaload, 1) := by decide +kernel
theorem dM_drive_187 : decode prog_9_method_32_code 187 = .ok (.ifCond .lt 114, 3) := by decide +kernel
theorem dM_drive_190 : decode prog_9_method_32_code 190 = .ok (.iload 4, 2) := by decide +kernel
theorem dM_drive_192 : decode prog_9_method_32_code 192 = .ok (.iload 7, 2) := by decide +kernel
theorem dM_drive_194 : decode prog_9_method_32_code 194 = .ok (.ishr, 1) := by decide +kernel
theorem dM_drive_195 : decode prog_9_method_32_code 195 = .ok (.iconst 1, 1) := by decide +kernel
theorem dM_drive_196 : decode prog_9_method_32_code 196 = .ok (.iand, 1) := by decide +kernel
theorem dM_drive_197 : decode prog_9_method_32_code 197 = .ok (.iconst 1, 1) := by decide +kernel
theorem dM_drive_198 : decode prog_9_method_32_code 198 = .ok (.if_icmp .ne 97, 3) := by decide +kernel
theorem dM_drive_201 : decode prog_9_method_32_code 201 = .ok (.bipush 8, 2) := by decide +kernel
theorem dM_drive_203 : decode prog_9_method_32_code 203 = .ok (.iload 7, 2) := by decide +kernel
theorem dM_drive_205 : decode prog_9_method_32_code 205 = .ok (.imul, 1) := by decide +kernel
theorem dM_drive_206 : decode prog_9_method_32_code 206 = .ok (.aload_n 0, 1) := by decide +kernel
theorem dM_drive_207 : decode prog_9_method_32_code 207 = .ok (.getfield 106, 3) := by decide +kernel
theorem dM_drive_210 : decode prog_9_method_32_code 210 = .ok (.iload_n 3, 1) := by decide +kernel
theorem dM_drive_211 : decode prog_9_method_32_code 211 = .ok (.iaload, 1) := by decide +kernel
theorem dM_drive_212 : decode prog_9_method_32_code 212 = .ok (.iadd, 1) := by decide +kernel
theorem dM_drive_213 : decode prog_9_method_32_code 213 = .ok (.istore 8, 2) := by decide +kernel
theorem dM_drive_215 : decode prog_9_method_32_code 215 = .ok (.aload_n 0, 1) := by decide +kernel
theorem dM_drive_216 : decode prog_9_method_32_code 216 = .ok (.aload_n 0, 1) := by decide +kernel
theorem dM_drive_217 : decode prog_9_method_32_code 217 = .ok (.getfield 260, 3) := by decide +kernel
theorem dM_drive_220 : decode prog_9_method_32_code 220 = .ok (.ifCond .ne 13, 3) := by decide +kernel
theorem dM_drive_223 : decode prog_9_method_32_code 223 = .ok (.aload_n 0, 1) := by decide +kernel
theorem dM_drive_224 : decode prog_9_method_32_code 224 = .ok (.getfield 35, 3) := by decide +kernel
theorem dM_drive_227 : decode prog_9_method_32_code 227 = .ok (.iload 8, 2) := by decide +kernel
theorem dM_drive_229 : decode prog_9_method_32_code 229 = .ok (.baload, 1) := by decide +kernel
theorem dM_drive_230 : decode prog_9_method_32_code 230 = .ok (.ifCond .ne 7, 3) := by decide +kernel
theorem dM_drive_233 : decode prog_9_method_32_code 233 = .ok (.iconst 1, 1) := by decide +kernel
theorem dM_drive_234 : decode prog_9_method_32_code 234 = .ok (.goto 4, 3) := by decide +kernel
theorem dM_drive_237 : decode prog_9_method_32_code 237 = .ok (.iconst 0, 1) := by decide +kernel
theorem dM_drive_238 : decode prog_9_method_32_code 238 = .ok (.putfield 260, 3) := by decide +kernel
theorem dM_drive_241 : decode prog_9_method_32_code 241 = .ok (.aload_n 0, 1) := by decide +kernel
theorem dM_drive_242 : decode prog_9_method_32_code 242 = .ok (.getfield 35, 3) := by decide +kernel
theorem dM_drive_245 : decode prog_9_method_32_code 245 = .ok (.iload 8, 2) := by decide +kernel
theorem dM_drive_247 : decode prog_9_method_32_code 247 = .ok (.baload, 1) := by decide +kernel
theorem dM_drive_248 : decode prog_9_method_32_code 248 = .ok (.ifCond .eq 16, 3) := by decide +kernel
theorem dM_drive_251 : decode prog_9_method_32_code 251 = .ok (.iload 5, 2) := by decide +kernel
theorem dM_drive_253 : decode prog_9_method_32_code 253 = .ok (.aload_n 0, 1) := by decide +kernel
theorem dM_drive_254 : decode prog_9_method_32_code 254 = .ok (.getfield 39, 3) := by decide +kernel
theorem dM_drive_257 : decode prog_9_method_32_code 257 = .ok (.iload 8, 2) := by decide +kernel
theorem dM_drive_259 : decode prog_9_method_32_code 259 = .ok (.iaload, 1) := by decide +kernel
theorem dM_drive_260 : decode prog_9_method_32_code 260 = .ok (.ior, 1) := by decide +kernel
theorem dM_drive_261 : decode prog_9_method_32_code 261 = .ok (.goto 5, 3) := by decide +kernel
theorem dM_drive_264 : decode prog_9_method_32_code 264 = .ok (.iload 5, 2) := by decide +kernel
theorem dM_drive_266 : decode prog_9_method_32_code 266 = .ok (.istore 5, 2) := by decide +kernel
theorem dM_drive_268 : decode prog_9_method_32_code 268 = .ok (.aload_n 0, 1) := by decide +kernel
theorem dM_drive_269 : decode prog_9_method_32_code 269 = .ok (.getfield 35, 3) := by decide +kernel
theorem dM_drive_272 : decode prog_9_method_32_code 272 = .ok (.iload 8, 2) := by decide +kernel
theorem dM_drive_274 : decode prog_9_method_32_code 274 = .ok (.baload, 1) := by decide +kernel
theorem dM_drive_275 : decode prog_9_method_32_code 275 = .ok (.ifCond .eq 16, 3) := by decide +kernel
theorem dM_drive_278 : decode prog_9_method_32_code 278 = .ok (.iload 6, 2) := by decide +kernel
theorem dM_drive_280 : decode prog_9_method_32_code 280 = .ok (.aload_n 0, 1) := by decide +kernel
theorem dM_drive_281 : decode prog_9_method_32_code 281 = .ok (.getfield 42, 3) := by decide +kernel
theorem dM_drive_284 : decode prog_9_method_32_code 284 = .ok (.iload 8, 2) := by decide +kernel
theorem dM_drive_286 : decode prog_9_method_32_code 286 = .ok (.iaload, 1) := by decide +kernel
theorem dM_drive_287 : decode prog_9_method_32_code 287 = .ok (.ior, 1) := by decide +kernel
theorem dM_drive_288 : decode prog_9_method_32_code 288 = .ok (.goto 5, 3) := by decide +kernel
theorem dM_drive_291 : decode prog_9_method_32_code 291 = .ok (.iload 6, 2) := by decide +kernel
theorem dM_drive_293 : decode prog_9_method_32_code 293 = .ok (.istore 6, 2) := by decide +kernel
theorem dM_drive_295 : decode prog_9_method_32_code 295 = .ok (.iinc 7 1, 3) := by decide +kernel
theorem dM_drive_298 : decode prog_9_method_32_code 298 = .ok (.goto (-126), 3) := by decide +kernel
theorem dM_drive_301 : decode prog_9_method_32_code 301 = .ok (.iload 5, 2) := by decide +kernel
theorem dM_drive_303 : decode prog_9_method_32_code 303 = .ok (.ifCond .eq 43, 3) := by decide +kernel
theorem dM_drive_306 : decode prog_9_method_32_code 306 = .ok (.aload_n 0, 1) := by decide +kernel
theorem dM_drive_307 : decode prog_9_method_32_code 307 = .ok (.aload_n 0, 1) := by decide +kernel
theorem dM_drive_308 : decode prog_9_method_32_code 308 = .ok (.getfield 109, 3) := by decide +kernel
theorem dM_drive_311 : decode prog_9_method_32_code 311 = .ok (.iload_n 3, 1) := by decide +kernel
theorem dM_drive_312 : decode prog_9_method_32_code 312 = .ok (.iaload, 1) := by decide +kernel
theorem dM_drive_313 : decode prog_9_method_32_code 313 = .ok (.invokevirtual 241, 3) := by decide +kernel
theorem dM_drive_316 : decode prog_9_method_32_code 316 = .ok (.istore 7, 2) := by decide +kernel
theorem dM_drive_318 : decode prog_9_method_32_code 318 = .ok (.aload_n 0, 1) := by decide +kernel
theorem dM_drive_319 : decode prog_9_method_32_code 319 = .ok (.getfield 124, 3) := by decide +kernel
theorem dM_drive_322 : decode prog_9_method_32_code 322 = .ok (.iload 7, 2) := by decide +kernel
theorem dM_drive_324 : decode prog_9_method_32_code 324 = .ok (.aload_n 0, 1) := by decide +kernel
theorem dM_drive_325 : decode prog_9_method_32_code 325 = .ok (.getfield 124, 3) := by decide +kernel
theorem dM_drive_328 : decode prog_9_method_32_code 328 = .ok (.iload 7, 2) := by decide +kernel
theorem dM_drive_330 : decode prog_9_method_32_code 330 = .ok (.iaload, 1) := by decide +kernel
theorem dM_drive_331 : decode prog_9_method_32_code 331 = .ok (.iload 5, 2) := by decide +kernel
theorem dM_drive_333 : decode prog_9_method_32_code 333 = .ok (.ior, 1) := by decide +kernel
theorem dM_drive_334 : decode prog_9_method_32_code 334 = .ok (.iastore, 1) := by decide +kernel
theorem dM_drive_335 : decode prog_9_method_32_code 335 = .ok (.aload_n 0, 1) := by decide +kernel
theorem dM_drive_336 : decode prog_9_method_32_code 336 = .ok (.getfield 131, 3) := by decide +kernel
theorem dM_drive_339 : decode prog_9_method_32_code 339 = .ok (.iload_n 2, 1) := by decide +kernel
theorem dM_drive_340 : decode prog_9_method_32_code 340 = .ok (.iload 7, 2) := by decide +kernel
theorem dM_drive_342 : decode prog_9_method_32_code 342 = .ok (.iastore, 1) := by decide +kernel
theorem dM_drive_343 : decode prog_9_method_32_code 343 = .ok (.iinc 2 1, 3) := by decide +kernel
theorem dM_drive_346 : decode prog_9_method_32_code 346 = .ok (.iload 6, 2) := by decide +kernel
theorem dM_drive_348 : decode prog_9_method_32_code 348 = .ok (.ifCond .eq 43, 3) := by decide +kernel
theorem dM_drive_351 : decode prog_9_method_32_code 351 = .ok (.aload_n 0, 1) := by decide +kernel
theorem dM_drive_352 : decode prog_9_method_32_code 352 = .ok (.aload_n 0, 1) := by decide +kernel
theorem dM_drive_353 : decode prog_9_method_32_code 353 = .ok (.getfield 112, 3) := by decide +kernel
theorem dM_drive_356 : decode prog_9_method_32_code 356 = .ok (.iload_n 3, 1) := by decide +kernel
theorem dM_drive_357 : decode prog_9_method_32_code 357 = .ok (.iaload, 1) := by decide +kernel
theorem dM_drive_358 : decode prog_9_method_32_code 358 = .ok (.invokevirtual 241, 3) := by decide +kernel
theorem dM_drive_361 : decode prog_9_method_32_code 361 = .ok (.istore 7, 2) := by decide +kernel
theorem dM_drive_363 : decode prog_9_method_32_code 363 = .ok (.aload_n 0, 1) := by decide +kernel
theorem dM_drive_364 : decode prog_9_method_32_code 364 = .ok (.getfield 124, 3) := by decide +kernel
theorem dM_drive_367 : decode prog_9_method_32_code 367 = .ok (.iload 7, 2) := by decide +kernel
theorem dM_drive_369 : decode prog_9_method_32_code 369 = .ok (.aload_n 0, 1) := by decide +kernel
theorem dM_drive_370 : decode prog_9_method_32_code 370 = .ok (.getfield 124, 3) := by decide +kernel
theorem dM_drive_373 : decode prog_9_method_32_code 373 = .ok (.iload 7, 2) := by decide +kernel
theorem dM_drive_375 : decode prog_9_method_32_code 375 = .ok (.iaload, 1) := by decide +kernel
theorem dM_drive_376 : decode prog_9_method_32_code 376 = .ok (.iload 6, 2) := by decide +kernel
theorem dM_drive_378 : decode prog_9_method_32_code 378 = .ok (.ior, 1) := by decide +kernel
theorem dM_drive_379 : decode prog_9_method_32_code 379 = .ok (.iastore, 1) := by decide +kernel
theorem dM_drive_380 : decode prog_9_method_32_code 380 = .ok (.aload_n 0, 1) := by decide +kernel
theorem dM_drive_381 : decode prog_9_method_32_code 381 = .ok (.getfield 131, 3) := by decide +kernel
theorem dM_drive_384 : decode prog_9_method_32_code 384 = .ok (.iload_n 2, 1) := by decide +kernel
theorem dM_drive_385 : decode prog_9_method_32_code 385 = .ok (.iload 7, 2) := by decide +kernel
theorem dM_drive_387 : decode prog_9_method_32_code 387 = .ok (.iastore, 1) := by decide +kernel
theorem dM_drive_388 : decode prog_9_method_32_code 388 = .ok (.iinc 2 1, 3) := by decide +kernel
theorem dM_drive_391 : decode prog_9_method_32_code 391 = .ok (.goto (-314), 3) := by decide +kernel
theorem dM_drive_394 : decode prog_9_method_32_code 394 = .ok (.return_, 1) := by decide +kernel
theorem dM_least_0 : decode prog_9_method_33_code 0 = .ok (.iconst 0, 1) := by decide +kernel
theorem dM_least_1 : decode prog_9_method_33_code 1 = .ok (.istore_n 2, 1) := by decide +kernel
theorem dM_least_2 : decode prog_9_method_33_code 2 = .ok (.iconst 0, 1) := by decide +kernel
theorem dM_least_3 : decode prog_9_method_33_code 3 = .ok (.istore_n 3, 1) := by decide +kernel
theorem dM_least_4 : decode prog_9_method_33_code 4 = .ok (.iload_n 3, 1) := by decide +kernel
theorem dM_least_5 : decode prog_9_method_33_code 5 = .ok (.aload_n 0, 1) := by decide +kernel
theorem dM_least_6 : decode prog_9_method_33_code 6 = .ok (.getfield 190, 3) := by decide +kernel
theorem dM_least_9 : decode prog_9_method_33_code 9 = .ok (.if_icmp .ge 95, 3) := by decide +kernel
theorem dM_least_12 : decode prog_9_method_33_code 12 = .ok (.iload_n 1, 1) := by decide +kernel
theorem dM_least_13 : decode prog_9_method_33_code 13 = .ok (.iload_n 3, 1) := by decide +kernel
theorem dM_least_14 : decode prog_9_method_33_code 14 = .ok (.ishr, 1) := by decide +kernel
theorem dM_least_15 : decode prog_9_method_33_code 15 = .ok (.iconst 1, 1) := by decide +kernel
theorem dM_least_16 : decode prog_9_method_33_code 16 = .ok (.iand, 1) := by decide +kernel
theorem dM_least_17 : decode prog_9_method_33_code 17 = .ok (.iconst 1, 1) := by decide +kernel
theorem dM_least_18 : decode prog_9_method_33_code 18 = .ok (.if_icmp .ne 7, 3) := by decide +kernel
theorem dM_least_21 : decode prog_9_method_33_code 21 = .ok (.iconst 1, 1) := by decide +kernel
theorem dM_least_22 : decode prog_9_method_33_code 22 = .ok (.goto 4, 3) := by decide +kernel
theorem dM_least_25 : decode prog_9_method_33_code 25 = .ok (.iconst 0, 1) := by decide +kernel
theorem dM_least_26 : decode prog_9_method_33_code 26 = .ok (.istore 4, 2) := by decide +kernel
theorem dM_least_28 : decode prog_9_method_33_code 28 = .ok (.iconst 0, 1) := by decide +kernel
theorem dM_least_29 : decode prog_9_method_33_code 29 = .ok (.istore 5, 2) := by decide +kernel
theorem dM_least_31 : decode prog_9_method_33_code 31 = .ok (.iload 5, 2) := by decide +kernel
theorem dM_least_33 : decode prog_9_method_33_code 33 = .ok (.aload_n 0, 1) := by decide +kernel
theorem dM_least_34 : decode prog_9_method_33_code 34 = .ok (.getfield 190, 3) := by decide +kernel
theorem dM_least_37 : decode prog_9_method_33_code 37 = .ok (.if_icmp .ge 46, 3) := by decide +kernel
theorem dM_least_40 : decode prog_9_method_33_code 40 = .ok (.iload 4, 2) := by decide +kernel
theorem dM_least_42 : decode prog_9_method_33_code 42 = .ok (.ifCond .eq 32, 3) := by decide +kernel
theorem dM_least_45 : decode prog_9_method_33_code 45 = .ok (.iload 5, 2) := by decide +kernel
theorem dM_least_47 : decode prog_9_method_33_code 47 = .ok (.iload_n 3, 1) := by decide +kernel
theorem dM_least_48 : decode prog_9_method_33_code 48 = .ok (.if_icmp .eq 22, 3) := by decide +kernel
theorem dM_least_51 : decode prog_9_method_33_code 51 = .ok (.iload_n 1, 1) := by decide +kernel
theorem dM_least_52 : decode prog_9_method_33_code 52 = .ok (.iload 5, 2) := by decide +kernel
theorem dM_least_54 : decode prog_9_method_33_code 54 = .ok (.ishr, 1) := by decide +kernel
theorem dM_least_55 : decode prog_9_method_33_code 55 = .ok (.iconst 1, 1) := by decide +kernel
theorem dM_least_56 : decode prog_9_method_33_code 56 = .ok (.iand, 1) := by decide +kernel
theorem dM_least_57 : decode prog_9_method_33_code 57 = .ok (.ifCond .eq 13, 3) := by decide +kernel
theorem dM_least_60 : decode prog_9_method_33_code 60 = .ok (.aload_n 0, 1) := by decide +kernel
theorem dM_least_61 : decode prog_9_method_33_code 61 = .ok (.iload 5, 2) := by decide +kernel
theorem dM_least_63 : decode prog_9_method_33_code 63 = .ok (.iload_n 3, 1) := by decide +kernel
theorem dM_least_64 : decode prog_9_method_33_code 64 = .ok (.invokevirtual 205, 3) := by decide +kernel
theorem dM_least_67 : decode prog_9_method_33_code 67 = .ok (.ifCond .ne 7, 3) := by decide +kernel
theorem dM_least_70 : decode prog_9_method_33_code 70 = .ok (.iconst 1, 1) := by decide +kernel
theorem dM_least_71 : decode prog_9_method_33_code 71 = .ok (.goto 4, 3) := by decide +kernel
theorem dM_least_74 : decode prog_9_method_33_code 74 = .ok (.iconst 0, 1) := by decide +kernel
theorem dM_least_75 : decode prog_9_method_33_code 75 = .ok (.istore 4, 2) := by decide +kernel
theorem dM_least_77 : decode prog_9_method_33_code 77 = .ok (.iinc 5 1, 3) := by decide +kernel
theorem dM_least_80 : decode prog_9_method_33_code 80 = .ok (.goto (-49), 3) := by decide +kernel
theorem dM_least_83 : decode prog_9_method_33_code 83 = .ok (.iload 4, 2) := by decide +kernel
theorem dM_least_85 : decode prog_9_method_33_code 85 = .ok (.ifCond .eq 11, 3) := by decide +kernel
theorem dM_least_88 : decode prog_9_method_33_code 88 = .ok (.iload_n 2, 1) := by decide +kernel
theorem dM_least_89 : decode prog_9_method_33_code 89 = .ok (.iconst 1, 1) := by decide +kernel
theorem dM_least_90 : decode prog_9_method_33_code 90 = .ok (.iload_n 3, 1) := by decide +kernel
theorem dM_least_91 : decode prog_9_method_33_code 91 = .ok (.ishl, 1) := by decide +kernel
theorem dM_least_92 : decode prog_9_method_33_code 92 = .ok (.ior, 1) := by decide +kernel
theorem dM_least_93 : decode prog_9_method_33_code 93 = .ok (.goto 4, 3) := by decide +kernel
theorem dM_least_96 : decode prog_9_method_33_code 96 = .ok (.iload_n 2, 1) := by decide +kernel
theorem dM_least_97 : decode prog_9_method_33_code 97 = .ok (.istore_n 2, 1) := by decide +kernel
theorem dM_least_98 : decode prog_9_method_33_code 98 = .ok (.iinc 3 1, 3) := by decide +kernel
theorem dM_least_101 : decode prog_9_method_33_code 101 = .ok (.goto (-97), 3) := by decide +kernel
theorem dM_least_104 : decode prog_9_method_33_code 104 = .ok (.iload_n 2, 1) := by decide +kernel
theorem dM_least_105 : decode prog_9_method_33_code 105 = .ok (.ireturn, 1) := by decide +kernel
theorem dM_ones_0 : decode prog_9_method_34_code 0 = .ok (.iconst 0, 1) := by decide +kernel
theorem dM_ones_1 : decode prog_9_method_34_code 1 = .ok (.istore_n 1, 1) := by decide +kernel
theorem dM_ones_2 : decode prog_9_method_34_code 2 = .ok (.iconst 0, 1) := by decide +kernel
theorem dM_ones_3 : decode prog_9_method_34_code 3 = .ok (.istore_n 2, 1) := by decide +kernel
theorem dM_ones_4 : decode prog_9_method_34_code 4 = .ok (.iload_n 2, 1) := by decide +kernel
theorem dM_ones_5 : decode prog_9_method_34_code 5 = .ok (.bipush 8, 2) := by decide +kernel
theorem dM_ones_7 : decode prog_9_method_34_code 7 = .ok (.if_icmp .ge 17, 3) := by decide +kernel
theorem dM_ones_10 : decode prog_9_method_34_code 10 = .ok (.iload_n 1, 1) := by decide +kernel
theorem dM_ones_11 : decode prog_9_method_34_code 11 = .ok (.iload_n 0, 1) := by decide +kernel
theorem dM_ones_12 : decode prog_9_method_34_code 12 = .ok (.iload_n 2, 1) := by decide +kernel
theorem dM_ones_13 : decode prog_9_method_34_code 13 = .ok (.ishr, 1) := by decide +kernel
theorem dM_ones_14 : decode prog_9_method_34_code 14 = .ok (.iconst 1, 1) := by decide +kernel
theorem dM_ones_15 : decode prog_9_method_34_code 15 = .ok (.iand, 1) := by decide +kernel
theorem dM_ones_16 : decode prog_9_method_34_code 16 = .ok (.iadd, 1) := by decide +kernel
theorem dM_ones_17 : decode prog_9_method_34_code 17 = .ok (.istore_n 1, 1) := by decide +kernel
theorem dM_ones_18 : decode prog_9_method_34_code 18 = .ok (.iinc 2 1, 3) := by decide +kernel
theorem dM_ones_21 : decode prog_9_method_34_code 21 = .ok (.goto (-17), 3) := by decide +kernel
theorem dM_ones_24 : decode prog_9_method_34_code 24 = .ok (.iload_n 1, 1) := by decide +kernel
theorem dM_ones_25 : decode prog_9_method_34_code 25 = .ok (.ireturn, 1) := by decide +kernel
theorem dM_takeNeeds_0 : decode prog_9_method_35_code 0 = .ok (.aload_n 0, 1) := by decide +kernel
theorem dM_takeNeeds_1 : decode prog_9_method_35_code 1 = .ok (.iconst 0, 1) := by decide +kernel
theorem dM_takeNeeds_2 : decode prog_9_method_35_code 2 = .ok (.putfield 263, 3) := by decide +kernel
theorem dM_takeNeeds_5 : decode prog_9_method_35_code 5 = .ok (.iconst 0, 1) := by decide +kernel
theorem dM_takeNeeds_6 : decode prog_9_method_35_code 6 = .ok (.istore_n 1, 1) := by decide +kernel
theorem dM_takeNeeds_7 : decode prog_9_method_35_code 7 = .ok (.iload_n 1, 1) := by decide +kernel
theorem dM_takeNeeds_8 : decode prog_9_method_35_code 8 = .ok (.aload_n 0, 1) := by decide +kernel
theorem dM_takeNeeds_9 : decode prog_9_method_35_code 9 = .ok (.getfield 250, 3) := by decide +kernel
theorem dM_takeNeeds_12 : decode prog_9_method_35_code 12 = .ok (.if_icmp .ge 74, 3) := by decide +kernel
theorem dM_takeNeeds_15 : decode prog_9_method_35_code 15 = .ok (.aload_n 0, 1) := by decide +kernel
theorem dM_takeNeeds_16 : decode prog_9_method_35_code 16 = .ok (.getfield 134, 3) := by decide +kernel
theorem dM_takeNeeds_19 : decode prog_9_method_35_code 19 = .ok (.iload_n 1, 1) := by decide +kernel
theorem dM_takeNeeds_20 : decode prog_9_method_35_code 20 = .ok (.iaload, 1) := by decide +kernel
theorem dM_takeNeeds_21 : decode prog_9_method_35_code 21 = .ok (.istore_n 2, 1) := by decide +kernel
theorem dM_takeNeeds_22 : decode prog_9_method_35_code 22 = .ok (.aload_n 0, 1) := by decide +kernel
theorem dM_takeNeeds_23 : decode prog_9_method_35_code 23 = .ok (.getfield 106, 3) := by decide +kernel
theorem dM_takeNeeds_26 : decode prog_9_method_35_code 26 = .ok (.iload_n 2, 1) := by decide +kernel
theorem dM_takeNeeds_27 : decode prog_9_method_35_code 27 = .ok (.iaload, 1) := by decide +kernel
theorem dM_takeNeeds_28 : decode prog_9_method_35_code 28 = .ok (.ifCond .ge 38, 3) := by decide +kernel
theorem dM_takeNeeds_31 : decode prog_9_method_35_code 31 = .ok (.aload_n 0, 1) := by decide +kernel
theorem dM_takeNeeds_32 : decode prog_9_method_35_code 32 = .ok (.getfield 170, 3) := by decide +kernel
theorem dM_takeNeeds_35 : decode prog_9_method_35_code 35 = .ok (.aload_n 0, 1) := by decide +kernel
theorem dM_takeNeeds_36 : decode prog_9_method_35_code 36 = .ok (.getfield 263, 3) := by decide +kernel
theorem dM_takeNeeds_39 : decode prog_9_method_35_code 39 = .ok (.iload_n 2, 1) := by decide +kernel
theorem dM_takeNeeds_40 : decode prog_9_method_35_code 40 = .ok (.iastore, 1) := by decide +kernel
theorem dM_takeNeeds_41 : decode prog_9_method_35_code 41 = .ok (.aload_n 0, 1) := by decide +kernel
theorem dM_takeNeeds_42 : decode prog_9_method_35_code 42 = .ok (.getfield 173, 3) := by decide +kernel
theorem dM_takeNeeds_45 : decode prog_9_method_35_code 45 = .ok (.aload_n 0, 1) := by decide +kernel
theorem dM_takeNeeds_46 : decode prog_9_method_35_code 46 = .ok (.getfield 263, 3) := by decide +kernel
theorem dM_takeNeeds_49 : decode prog_9_method_35_code 49 = .ok (.aload_n 0, 1) := by decide +kernel
theorem dM_takeNeeds_50 : decode prog_9_method_35_code 50 = .ok (.getfield 124, 3) := by decide +kernel
theorem dM_takeNeeds_53 : decode prog_9_method_35_code 53 = .ok (.iload_n 2, 1) := by decide +kernel
theorem dM_takeNeeds_54 : decode prog_9_method_35_code 54 = .ok (.iaload, 1) := by decide +kernel
theorem dM_takeNeeds_55 : decode prog_9_method_35_code 55 = .ok (.iastore, 1) := by decide +kernel
theorem dM_takeNeeds_56 : decode prog_9_method_35_code 56 = .ok (.aload_n 0, 1) := by decide +kernel
theorem dM_takeNeeds_57 : decode prog_9_method_35_code 57 = .ok (.dup, 1) := by decide +kernel
theorem dM_takeNeeds_58 : decode prog_9_method_35_code 58 = .ok (.getfield 263, 3) := by decide +kernel
theorem dM_takeNeeds_61 : decode prog_9_method_35_code 61 = .ok (.iconst 1, 1) := by decide +kernel
theorem dM_takeNeeds_62 : decode prog_9_method_35_code 62 = .ok (.iadd, 1) := by decide +kernel
theorem dM_takeNeeds_63 : decode prog_9_method_35_code 63 = .ok (.putfield 263, 3) := by decide +kernel
theorem dM_takeNeeds_66 : decode prog_9_method_35_code 66 = .ok (.aload_n 0, 1) := by decide +kernel
theorem dM_takeNeeds_67 : decode prog_9_method_35_code 67 = .ok (.getfield 124, 3) := by decide +kernel
theorem dM_takeNeeds_70 : decode prog_9_method_35_code 70 = .ok (.iload_n 2, 1) := by decide +kernel
theorem dM_takeNeeds_71 : decode prog_9_method_35_code 71 = .ok (.iconst 0, 1) := by decide +kernel
theorem dM_takeNeeds_72 : decode prog_9_method_35_code 72 = .ok (.iastore, 1) := by decide +kernel
theorem dM_takeNeeds_73 : decode prog_9_method_35_code 73 = .ok (.aload_n 0, 1) := by decide +kernel
theorem dM_takeNeeds_74 : decode prog_9_method_35_code 74 = .ok (.getfield 127, 3) := by decide +kernel
theorem dM_takeNeeds_77 : decode prog_9_method_35_code 77 = .ok (.iload_n 2, 1) := by decide +kernel
theorem dM_takeNeeds_78 : decode prog_9_method_35_code 78 = .ok (.iconst 0, 1) := by decide +kernel
theorem dM_takeNeeds_79 : decode prog_9_method_35_code 79 = .ok (.iastore, 1) := by decide +kernel
theorem dM_takeNeeds_80 : decode prog_9_method_35_code 80 = .ok (.iinc 1 1, 3) := by decide +kernel
theorem dM_takeNeeds_83 : decode prog_9_method_35_code 83 = .ok (.goto (-76), 3) := by decide +kernel
theorem dM_takeNeeds_86 : decode prog_9_method_35_code 86 = .ok (.return_, 1) := by decide +kernel
theorem dM_generalise_0 : decode prog_9_method_36_code 0 = .ok (.aload_n 0, 1) := by decide +kernel
theorem dM_generalise_1 : decode prog_9_method_36_code 1 = .ok (.invokevirtual 266, 3) := by decide +kernel
theorem dM_generalise_4 : decode prog_9_method_36_code 4 = .ok (.aload_n 0, 1) := by decide +kernel
theorem dM_generalise_5 : decode prog_9_method_36_code 5 = .ok (.getfield 237, 3) := by decide +kernel
theorem dM_generalise_8 : decode prog_9_method_36_code 8 = .ok (.ifCond .eq 4, 3) := by decide +kernel
theorem dM_generalise_11 : decode prog_9_method_36_code 11 = .ok (.return_, 1) := by decide +kernel
theorem dM_generalise_12 : decode prog_9_method_36_code 12 = .ok (.aload_n 0, 1) := by decide +kernel
theorem dM_generalise_13 : decode prog_9_method_36_code 13 = .ok (.aload_n 0, 1) := by decide +kernel
theorem dM_generalise_14 : decode prog_9_method_36_code 14 = .ok (.getfield 93, 3) := by decide +kernel
theorem dM_generalise_17 : decode prog_9_method_36_code 17 = .ok (.iload_n 1, 1) := by decide +kernel
theorem dM_generalise_18 : decode prog_9_method_36_code 18 = .ok (.iaload, 1) := by decide +kernel
theorem dM_generalise_19 : decode prog_9_method_36_code 19 = .ok (.invokevirtual 269, 3) := by decide +kernel
theorem dM_generalise_22 : decode prog_9_method_36_code 22 = .ok (.aload_n 0, 1) := by decide +kernel
theorem dM_generalise_23 : decode prog_9_method_36_code 23 = .ok (.invokevirtual 272, 3) := by decide +kernel
theorem dM_generalise_26 : decode prog_9_method_36_code 26 = .ok (.aload_n 0, 1) := by decide +kernel
theorem dM_generalise_27 : decode prog_9_method_36_code 27 = .ok (.aload_n 0, 1) := by decide +kernel
theorem dM_generalise_28 : decode prog_9_method_36_code 28 = .ok (.getfield 93, 3) := by decide +kernel
theorem dM_generalise_31 : decode prog_9_method_36_code 31 = .ok (.iload_n 1, 1) := by decide +kernel
theorem dM_generalise_32 : decode prog_9_method_36_code 32 = .ok (.iaload, 1) := by decide +kernel
theorem dM_generalise_33 : decode prog_9_method_36_code 33 = .ok (.putfield 257, 3) := by decide +kernel
theorem dM_generalise_36 : decode prog_9_method_36_code 36 = .ok (.aload_n 0, 1) := by decide +kernel
theorem dM_generalise_37 : decode prog_9_method_36_code 37 = .ok (.iconst 0, 1) := by decide +kernel
theorem dM_generalise_38 : decode prog_9_method_36_code 38 = .ok (.putfield 250, 3) := by decide +kernel
theorem dM_generalise_41 : decode prog_9_method_36_code 41 = .ok (.aload_n 0, 1) := by decide +kernel
theorem dM_generalise_42 : decode prog_9_method_36_code 42 = .ok (.dup, 1) := by decide +kernel
theorem dM_generalise_43 : decode prog_9_method_36_code 43 = .ok (.getfield 247, 3) := by decide +kernel
theorem dM_generalise_46 : decode prog_9_method_36_code 46 = .ok (.iconst 1, 1) := by decide +kernel
theorem dM_generalise_47 : decode prog_9_method_36_code 47 = .ok (.iadd, 1) := by decide +kernel
theorem dM_generalise_48 : decode prog_9_method_36_code 48 = .ok (.putfield 247, 3) := by decide +kernel
theorem dM_generalise_51 : decode prog_9_method_36_code 51 = .ok (.aload_n 0, 1) := by decide +kernel
theorem dM_generalise_52 : decode prog_9_method_36_code 52 = .ok (.getfield 247, 3) := by decide +kernel
theorem dM_generalise_55 : decode prog_9_method_36_code 55 = .ok (.istore_n 2, 1) := by decide +kernel
theorem dM_generalise_56 : decode prog_9_method_36_code 56 = .ok (.aload_n 0, 1) := by decide +kernel
theorem dM_generalise_57 : decode prog_9_method_36_code 57 = .ok (.getfield 63, 3) := by decide +kernel
theorem dM_generalise_60 : decode prog_9_method_36_code 60 = .ok (.iload_n 1, 1) := by decide +kernel
theorem dM_generalise_61 : decode prog_9_method_36_code 61 = .ok (.iaload, 1) := by decide +kernel
theorem dM_generalise_62 : decode prog_9_method_36_code 62 = .ok (.istore_n 3, 1) := by decide +kernel
theorem dM_generalise_63 : decode prog_9_method_36_code 63 = .ok (.iload_n 3, 1) := by decide +kernel
theorem dM_generalise_64 : decode prog_9_method_36_code 64 = .ok (.ifCond .lt 32, 3) := by decide +kernel
theorem dM_generalise_67 : decode prog_9_method_36_code 67 = .ok (.aload_n 0, 1) := by decide +kernel
theorem dM_generalise_68 : decode prog_9_method_36_code 68 = .ok (.iload_n 3, 1) := by decide +kernel
theorem dM_generalise_69 : decode prog_9_method_36_code 69 = .ok (.invokevirtual 227, 3) := by decide +kernel
theorem dM_generalise_72 : decode prog_9_method_36_code 72 = .ok (.iconst 1, 1) := by decide +kernel
theorem dM_generalise_73 : decode prog_9_method_36_code 73 = .ok (.if_icmp .ne 13, 3) := by decide +kernel
theorem dM_generalise_76 : decode prog_9_method_36_code 76 = .ok (.aload_n 0, 1) := by decide +kernel
theorem dM_generalise_77 : decode prog_9_method_36_code 77 = .ok (.aload_n 0, 1) := by decide +kernel
theorem dM_generalise_78 : decode prog_9_method_36_code 78 = .ok (.getfield 78, 3) := by decide +kernel
theorem dM_generalise_81 : decode prog_9_method_36_code 81 = .ok (.iload_n 3, 1) := by decide +kernel
theorem dM_generalise_82 : decode prog_9_method_36_code 82 = .ok (.iaload, 1) := by decide +kernel
theorem dM_generalise_83 : decode prog_9_method_36_code 83 = .ok (.invokevirtual 275, 3) := by decide +kernel
theorem dM_generalise_86 : decode prog_9_method_36_code 86 = .ok (.aload_n 0, 1) := by decide +kernel
theorem dM_generalise_87 : decode prog_9_method_36_code 87 = .ok (.getfield 63, 3) := by decide +kernel
theorem dM_generalise_90 : decode prog_9_method_36_code 90 = .ok (.iload_n 3, 1) := by decide +kernel
theorem dM_generalise_91 : decode prog_9_method_36_code 91 = .ok (.iaload, 1) := by decide +kernel
theorem dM_generalise_92 : decode prog_9_method_36_code 92 = .ok (.istore_n 3, 1) := by decide +kernel
theorem dM_generalise_93 : decode prog_9_method_36_code 93 = .ok (.goto (-30), 3) := by decide +kernel
theorem dM_generalise_96 : decode prog_9_method_36_code 96 = .ok (.iconst 0, 1) := by decide +kernel
theorem dM_generalise_97 : decode prog_9_method_36_code 97 = .ok (.istore_n 3, 1) := by decide +kernel
theorem dM_generalise_98 : decode prog_9_method_36_code 98 = .ok (.iload_n 3, 1) := by decide +kernel
theorem dM_generalise_99 : decode prog_9_method_36_code 99 = .ok (.aload_n 0, 1) := by decide +kernel
theorem dM_generalise_100 : decode prog_9_method_36_code 100 = .ok (.getfield 263, 3) := by decide +kernel
theorem dM_generalise_103 : decode prog_9_method_36_code 103 = .ok (.if_icmp .ge 47, 3) := by decide +kernel
theorem dM_generalise_106 : decode prog_9_method_36_code 106 = .ok (.aload_n 0, 1) := by decide +kernel
theorem dM_generalise_107 : decode prog_9_method_36_code 107 = .ok (.getfield 115, 3) := by decide +kernel
theorem dM_generalise_110 : decode prog_9_method_36_code 110 = .ok (.aload_n 0, 1) := by decide +kernel
theorem dM_generalise_111 : decode prog_9_method_36_code 111 = .ok (.getfield 170, 3) := by decide +kernel
theorem dM_generalise_114 : decode prog_9_method_36_code 114 = .ok (.iload_n 3, 1) := by decide +kernel
theorem dM_generalise_115 : decode prog_9_method_36_code 115 = .ok (.iaload, 1) := by decide +kernel
theorem dM_generalise_116 : decode prog_9_method_36_code 116 = .ok (.iaload, 1) := by decide +kernel
theorem dM_generalise_117 : decode prog_9_method_36_code 117 = .ok (.iload_n 2, 1) := by decide +kernel
theorem dM_generalise_118 : decode prog_9_method_36_code 118 = .ok (.if_icmp .ne 26, 3) := by decide +kernel
theorem dM_generalise_121 : decode prog_9_method_36_code 121 = .ok (.aload_n 0, 1) := by decide +kernel
theorem dM_generalise_122 : decode prog_9_method_36_code 122 = .ok (.aload_n 0, 1) := by decide +kernel
theorem dM_generalise_123 : decode prog_9_method_36_code 123 = .ok (.getfield 170, 3) := by decide +kernel
theorem dM_generalise_126 : decode prog_9_method_36_code 126 = .ok (.iload_n 3, 1) := by decide +kernel
theorem dM_generalise_127 : decode prog_9_method_36_code 127 = .ok (.iaload, 1) := by decide +kernel
theorem dM_generalise_128 : decode prog_9_method_36_code 128 = .ok (.aload_n 0, 1) := by decide +kernel
theorem dM_generalise_129 : decode prog_9_method_36_code 129 = .ok (.getfield 173, 3) := by decide +kernel
theorem dM_generalise_132 : decode prog_9_method_36_code 132 = .ok (.iload_n 3, 1) := by decide +kernel
theorem dM_generalise_133 : decode prog_9_method_36_code 133 = .ok (.iaload, 1) := by decide +kernel
theorem dM_generalise_134 : decode prog_9_method_36_code 134 = .ok (.invokevirtual 278, 3) := by decide +kernel
theorem dM_generalise_137 : decode prog_9_method_36_code 137 = .ok (.aload_n 0, 1) := by decide +kernel
theorem dM_generalise_138 : decode prog_9_method_36_code 138 = .ok (.getfield 173, 3) := by decide +kernel
theorem dM_generalise_141 : decode prog_9_method_36_code 141 = .ok (.iload_n 3, 1) := by decide +kernel
theorem dM_generalise_142 : decode prog_9_method_36_code 142 = .ok (.iconst 0, 1) := by decide +kernel
theorem dM_generalise_143 : decode prog_9_method_36_code 143 = .ok (.iastore, 1) := by decide +kernel
theorem dM_generalise_144 : decode prog_9_method_36_code 144 = .ok (.iinc 3 1, 3) := by decide +kernel
theorem dM_generalise_147 : decode prog_9_method_36_code 147 = .ok (.goto (-49), 3) := by decide +kernel
theorem dM_generalise_150 : decode prog_9_method_36_code 150 = .ok (.aload_n 0, 1) := by decide +kernel
theorem dM_generalise_151 : decode prog_9_method_36_code 151 = .ok (.dup, 1) := by decide +kernel
theorem dM_generalise_152 : decode prog_9_method_36_code 152 = .ok (.getfield 247, 3) := by decide +kernel
theorem dM_generalise_155 : decode prog_9_method_36_code 155 = .ok (.iconst 1, 1) := by decide +kernel
theorem dM_generalise_156 : decode prog_9_method_36_code 156 = .ok (.iadd, 1) := by decide +kernel
theorem dM_generalise_157 : decode prog_9_method_36_code 157 = .ok (.putfield 247, 3) := by decide +kernel
theorem dM_generalise_160 : decode prog_9_method_36_code 160 = .ok (.aload_n 0, 1) := by decide +kernel
theorem dM_generalise_161 : decode prog_9_method_36_code 161 = .ok (.aload_n 0, 1) := by decide +kernel
theorem dM_generalise_162 : decode prog_9_method_36_code 162 = .ok (.getfield 75, 3) := by decide +kernel
theorem dM_generalise_165 : decode prog_9_method_36_code 165 = .ok (.aload_n 0, 1) := by decide +kernel
theorem dM_generalise_166 : decode prog_9_method_36_code 166 = .ok (.getfield 69, 3) := by decide +kernel
theorem dM_generalise_169 : decode prog_9_method_36_code 169 = .ok (.iload_n 1, 1) := by decide +kernel
theorem dM_generalise_170 : decode prog_9_method_36_code 170 = .ok (.iaload, 1) := by decide +kernel
theorem dM_generalise_171 : decode prog_9_method_36_code 171 = .ok (.iaload, 1) := by decide +kernel
theorem dM_generalise_172 : decode prog_9_method_36_code 172 = .ok (.invokevirtual 275, 3) := by decide +kernel
theorem dM_generalise_175 : decode prog_9_method_36_code 175 = .ok (.aload_n 0, 1) := by decide +kernel
theorem dM_generalise_176 : decode prog_9_method_36_code 176 = .ok (.getfield 81, 3) := by decide +kernel
theorem dM_generalise_179 : decode prog_9_method_36_code 179 = .ok (.iload_n 1, 1) := by decide +kernel
theorem dM_generalise_180 : decode prog_9_method_36_code 180 = .ok (.aload_n 0, 1) := by decide +kernel
theorem dM_generalise_181 : decode prog_9_method_36_code 181 = .ok (.getfield 282, 3) := by decide +kernel
theorem dM_generalise_184 : decode prog_9_method_36_code 184 = .ok (.iastore, 1) := by decide +kernel
theorem dM_generalise_185 : decode prog_9_method_36_code 185 = .ok (.iconst 0, 1) := by decide +kernel
theorem dM_generalise_186 : decode prog_9_method_36_code 186 = .ok (.istore_n 3, 1) := by decide +kernel
theorem dM_generalise_187 : decode prog_9_method_36_code 187 = .ok (.iload_n 3, 1) := by decide +kernel
theorem dM_generalise_188 : decode prog_9_method_36_code 188 = .ok (.aload_n 0, 1) := by decide +kernel
theorem dM_generalise_189 : decode prog_9_method_36_code 189 = .ok (.getfield 263, 3) := by decide +kernel
theorem dM_generalise_192 : decode prog_9_method_36_code 192 = .ok (.if_icmp .ge 108, 3) := by decide +kernel
theorem dM_generalise_195 : decode prog_9_method_36_code 195 = .ok (.aload_n 0, 1) := by decide +kernel
theorem dM_generalise_196 : decode prog_9_method_36_code 196 = .ok (.getfield 173, 3) := by decide +kernel
theorem dM_generalise_199 : decode prog_9_method_36_code 199 = .ok (.iload_n 3, 1) := by decide +kernel
theorem dM_generalise_200 : decode prog_9_method_36_code 200 = .ok (.iaload, 1) := by decide +kernel
theorem dM_generalise_201 : decode prog_9_method_36_code 201 = .ok (.ifCond .eq 68, 3) := by decide +kernel
theorem dM_generalise_204 : decode prog_9_method_36_code 204 = .ok (.aload_n 0, 1) := by decide +kernel
theorem dM_generalise_205 : decode prog_9_method_36_code 205 = .ok (.getfield 115, 3) := by decide +kernel
theorem dM_generalise_208 : decode prog_9_method_36_code 208 = .ok (.aload_n 0, 1) := by decide +kernel
theorem dM_generalise_209 : decode prog_9_method_36_code 209 = .ok (.getfield 170, 3) := by decide +kernel
theorem dM_generalise_212 : decode prog_9_method_36_code 212 = .ok (.iload_n 3, 1) := by decide +kernel
theorem dM_generalise_213 : decode prog_9_method_36_code 213 = .ok (.iaload, 1) := by decide +kernel
theorem dM_generalise_214 : decode prog_9_method_36_code 214 = .ok (.iaload, 1) := by decide +kernel
theorem dM_generalise_215 : decode prog_9_method_36_code 215 = .ok (.aload_n 0, 1) := by decide +kernel
theorem dM_generalise_216 : decode prog_9_method_36_code 216 = .ok (.getfield 247, 3) := by decide +kernel
theorem dM_generalise_219 : decode prog_9_method_36_code 219 = .ok (.if_icmp .ne 50, 3) := by decide +kernel
theorem dM_generalise_222 : decode prog_9_method_36_code 222 = .ok (.aload_n 0, 1) := by decide +kernel
theorem dM_generalise_223 : decode prog_9_method_36_code 223 = .ok (.getfield 96, 3) := by decide +kernel
theorem dM_generalise_226 : decode prog_9_method_36_code 226 = .ok (.aload_n 0, 1) := by decide +kernel
theorem dM_generalise_227 : decode prog_9_method_36_code 227 = .ok (.getfield 282, 3) := by decide +kernel
theorem dM_generalise_230 : decode prog_9_method_36_code 230 = .ok (.aload_n 0, 1) := by decide +kernel
theorem dM_generalise_231 : decode prog_9_method_36_code 231 = .ok (.getfield 170, 3) := by decide +kernel
theorem dM_generalise_234 : decode prog_9_method_36_code 234 = .ok (.iload_n 3, 1) := by decide +kernel
theorem dM_generalise_235 : decode prog_9_method_36_code 235 = .ok (.iaload, 1) := by decide +kernel
theorem dM_generalise_236 : decode prog_9_method_36_code 236 = .ok (.iastore, 1) := by decide +kernel
theorem dM_generalise_237 : decode prog_9_method_36_code 237 = .ok (.aload_n 0, 1) := by decide +kernel
theorem dM_generalise_238 : decode prog_9_method_36_code 238 = .ok (.getfield 99, 3) := by decide +kernel
theorem dM_generalise_241 : decode prog_9_method_36_code 241 = .ok (.aload_n 0, 1) := by decide +kernel
theorem dM_generalise_242 : decode prog_9_method_36_code 242 = .ok (.getfield 282, 3) := by decide +kernel
theorem dM_generalise_245 : decode prog_9_method_36_code 245 = .ok (.aload_n 0, 1) := by decide +kernel
theorem dM_generalise_246 : decode prog_9_method_36_code 246 = .ok (.aload_n 0, 1) := by decide +kernel
theorem dM_generalise_247 : decode prog_9_method_36_code 247 = .ok (.getfield 173, 3) := by decide +kernel
theorem dM_generalise_250 : decode prog_9_method_36_code 250 = .ok (.iload_n 3, 1) := by decide +kernel
theorem dM_generalise_251 : decode prog_9_method_36_code 251 = .ok (.iaload, 1) := by decide +kernel
theorem dM_generalise_252 : decode prog_9_method_36_code 252 = .ok (.invokevirtual 285, 3) := by decide +kernel
theorem dM_generalise_255 : decode prog_9_method_36_code 255 = .ok (.iastore, 1) := by decide +kernel
theorem dM_generalise_256 : decode prog_9_method_36_code 256 = .ok (.aload_n 0, 1) := by decide +kernel
theorem dM_generalise_257 : decode prog_9_method_36_code 257 = .ok (.dup, 1) := by decide +kernel
theorem dM_generalise_258 : decode prog_9_method_36_code 258 = .ok (.getfield 282, 3) := by decide +kernel
theorem dM_generalise_261 : decode prog_9_method_36_code 261 = .ok (.iconst 1, 1) := by decide +kernel
theorem dM_generalise_262 : decode prog_9_method_36_code 262 = .ok (.iadd, 1) := by decide +kernel
theorem dM_generalise_263 : decode prog_9_method_36_code 263 = .ok (.putfield 282, 3) := by decide +kernel
theorem dM_generalise_266 : decode prog_9_method_36_code 266 = .ok (.goto 28, 3) := by decide +kernel
theorem dM_generalise_269 : decode prog_9_method_36_code 269 = .ok (.aload_n 0, 1) := by decide +kernel
theorem dM_generalise_270 : decode prog_9_method_36_code 270 = .ok (.aload_n 0, 1) := by decide +kernel
theorem dM_generalise_271 : decode prog_9_method_36_code 271 = .ok (.getfield 288, 3) := by decide +kernel
theorem dM_generalise_274 : decode prog_9_method_36_code 274 = .ok (.ifCond .ne 12, 3) := by decide +kernel
theorem dM_generalise_277 : decode prog_9_method_36_code 277 = .ok (.aload_n 0, 1) := by decide +kernel
theorem dM_generalise_278 : decode prog_9_method_36_code 278 = .ok (.getfield 173, 3) := by decide +kernel
theorem dM_generalise_281 : decode prog_9_method_36_code 281 = .ok (.iload_n 3, 1) := by decide +kernel
theorem dM_generalise_282 : decode prog_9_method_36_code 282 = .ok (.iaload, 1) := by decide +kernel
theorem dM_generalise_283 : decode prog_9_method_36_code 283 = .ok (.ifCond .eq 7, 3) := by decide +kernel
theorem dM_generalise_286 : decode prog_9_method_36_code 286 = .ok (.iconst 1, 1) := by decide +kernel
theorem dM_generalise_287 : decode prog_9_method_36_code 287 = .ok (.goto 4, 3) := by decide +kernel
theorem dM_generalise_290 : decode prog_9_method_36_code 290 = .ok (.iconst 0, 1) := by decide +kernel
theorem dM_generalise_291 : decode prog_9_method_36_code 291 = .ok (.putfield 288, 3) := by decide +kernel
theorem dM_generalise_294 : decode prog_9_method_36_code 294 = .ok (.iinc 3 1, 3) := by decide +kernel
theorem dM_generalise_297 : decode prog_9_method_36_code 297 = .ok (.goto (-110), 3) := by decide +kernel
theorem dM_generalise_300 : decode prog_9_method_36_code 300 = .ok (.aload_n 0, 1) := by decide +kernel
theorem dM_generalise_301 : decode prog_9_method_36_code 301 = .ok (.getfield 84, 3) := by decide +kernel
theorem dM_generalise_304 : decode prog_9_method_36_code 304 = .ok (.iload_n 1, 1) := by decide +kernel
theorem dM_generalise_305 : decode prog_9_method_36_code 305 = .ok (.aload_n 0, 1) := by decide +kernel
theorem dM_generalise_306 : decode prog_9_method_36_code 306 = .ok (.getfield 282, 3) := by decide +kernel
theorem dM_generalise_309 : decode prog_9_method_36_code 309 = .ok (.aload_n 0, 1) := by decide +kernel
theorem dM_generalise_310 : decode prog_9_method_36_code 310 = .ok (.getfield 81, 3) := by decide +kernel
theorem dM_generalise_313 : decode prog_9_method_36_code 313 = .ok (.iload_n 1, 1) := by decide +kernel
theorem dM_generalise_314 : decode prog_9_method_36_code 314 = .ok (.iaload, 1) := by decide +kernel
theorem dM_generalise_315 : decode prog_9_method_36_code 315 = .ok (.isub, 1) := by decide +kernel
theorem dM_generalise_316 : decode prog_9_method_36_code 316 = .ok (.iastore, 1) := by decide +kernel
theorem dM_generalise_317 : decode prog_9_method_36_code 317 = .ok (.return_, 1) := by decide +kernel
