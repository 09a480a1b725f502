theorem dM_generalise_0 : decode prog_9_method_36_code 0 = .ok (.aload_n 0, 1) := by decide +kernel
theorem dM_generalise_1 : decode prog_9_method_36_code 1 = .ok (.invokevirtual 266, 3) := by decide +kernel
theorem dM_generalise_4 : decode prog_9_method_36_code 4 = .ok (.aload_n 0, 1) := by decide +kernel
theorem dM_generalise_5 : decode prog_9_method_36_code 5 = .ok (.getfield 237, 3) := by decide +kernel
theorem dM_generalise_8 : decode prog_9_method_36_code 8 = .ok (.ifCond .eq 4, 3) := by decide +kernel
theorem dM_generalise_11 : decode prog_9_method_36_code 11 = .ok (.return_, 1) := by decide +kernel
theorem dM_generalise_12 : decode prog_9_method_36_code 12 = .ok (.aload_n 0, 1) := by decide +kernel
theorem dM_generalise_13 : decode prog_9_method_36_code 13 = .ok (.aload_n 0, 1) := by decide +kernel
theorem dM_generalise_14 : decode prog_9_method_36_code 14 = .ok (.getfield 93, 3) := by decide +kernel
theorem dM_generalise_17 : decode prog_9_method_36_code 17 = .ok (.iload_n 1, 1) := by decide +kernel
theorem dM_generalise_18 : decode prog_9_method_36_code 18 = .ok (.iaload, 1) := by decide +kernel
theorem dM_generalise_19 : decode prog_9_method_36_code 19 = .ok (.invokevirtual 269, 3) := by decide +kernel
theorem dM_generalise_22 : decode prog_9_method_36_code 22 = .ok (.aload_n 0, 1) := by decide +kernel
theorem dM_generalise_23 : decode prog_9_method_36_code 23 = .ok (.invokevirtual 272, 3) := by decide +kernel
theorem dM_generalise_26 : decode prog_9_method_36_code 26 = .ok (.aload_n 0, 1) := by decide +kernel
theorem dM_generalise_27 : decode prog_9_method_36_code 27 = .ok (.aload_n 0, 1) := by decide +kernel
theorem dM_generalise_28 : decode prog_9_method_36_code 28 = .ok (.getfield 93, 3) := by decide +kernel
theorem dM_generalise_31 : decode prog_9_method_36_code 31 = .ok (.iload_n 1, 1) := by decide +kernel
theorem dM_generalise_32 : decode prog_9_method_36_code 32 = .ok (.iaload, 1) := by decide +kernel
theorem dM_generalise_33 : decode prog_9_method_36_code 33 = .ok (.putfield 257, 3) := by decide +kernel
theorem dM_generalise_36 : decode prog_9_method_36_code 36 = .ok (.aload_n 0, 1) := by decide +kernel
theorem dM_generalise_37 : decode prog_9_method_36_code 37 = .ok (.iconst 0, 1) := by decide +kernel
theorem dM_generalise_38 : decode prog_9_method_36_code 38 = .ok (.putfield 250, 3) := by decide +kernel
theorem dM_generalise_41 : decode prog_9_method_36_code 41 = .ok (.aload_n 0, 1) := by decide +kernel
theorem dM_generalise_42 : decode prog_9_method_36_code 42 = .ok (.dup, 1) := by decide +kernel
theorem dM_generalise_43 : decode prog_9_method_36_code 43 = .ok (.getfield 247, 3) := by decide +kernel
theorem dM_generalise_46 : decode prog_9_method_36_code 46 = .ok (.iconst 1, 1) := by decide +kernel
theorem dM_generalise_47 : decode prog_9_method_36_code 47 = .ok (.iadd, 1) := by decide +kernel
theorem dM_generalise_48 : decode prog_9_method_36_code 48 = .ok (.putfield 247, 3) := by decide +kernel
theorem dM_generalise_51 : decode prog_9_method_36_code 51 = .ok (.aload_n 0, 1) := by decide +kernel
theorem dM_generalise_52 : decode prog_9_method_36_code 52 = .ok (.getfield 247, 3) := by decide +kernel
theorem dM_generalise_55 : decode prog_9_method_36_code 55 = .ok (.istore_n 2, 1) := by decide +kernel
theorem dM_generalise_56 : decode prog_9_method_36_code 56 = .ok (.aload_n 0, 1) := by decide +kernel
theorem dM_generalise_57 : decode prog_9_method_36_code 57 = .ok (.getfield 63, 3) := by decide +kernel
theorem dM_generalise_60 : decode prog_9_method_36_code 60 = .ok (.iload_n 1, 1) := by decide +kernel
theorem dM_generalise_61 : decode prog_9_method_36_code 61 = .ok (.iaload, 1) := by decide +kernel
theorem dM_generalise_62 : decode prog_9_method_36_code 62 = .ok (.istore_n 3, 1) := by decide +kernel
theorem dM_generalise_63 : decode prog_9_method_36_code 63 = .ok (.iload_n 3, 1) := by decide +kernel
theorem dM_generalise_64 : decode prog_9_method_36_code 64 = .ok (.ifCond .lt 32, 3) := by decide +kernel
theorem dM_generalise_67 : decode prog_9_method_36_code 67 = .ok (.aload_n 0, 1) := by decide +kernel
theorem dM_generalise_68 : decode prog_9_method_36_code 68 = .ok (.iload_n 3, 1) := by decide +kernel
theorem dM_generalise_69 : decode prog_9_method_36_code 69 = .ok (.invokevirtual 227, 3) := by decide +kernel
theorem dM_generalise_72 : decode prog_9_method_36_code 72 = .ok (.iconst 1, 1) := by decide +kernel
theorem dM_generalise_73 : decode prog_9_method_36_code 73 = .ok (.if_icmp .ne 13, 3) := by decide +kernel
theorem dM_generalise_76 : decode prog_9_method_36_code 76 = .ok (.aload_n 0, 1) := by decide +kernel
theorem dM_generalise_77 : decode prog_9_method_36_code 77 = .ok (.aload_n 0, 1) := by decide +kernel
theorem dM_generalise_78 : decode prog_9_method_36_code 78 = .ok (.getfield 78, 3) := by decide +kernel
theorem dM_generalise_81 : decode prog_9_method_36_code 81 = .ok (.iload_n 3, 1) := by decide +kernel
theorem dM_generalise_82 : decode prog_9_method_36_code 82 = .ok (.iaload, 1) := by decide +kernel
theorem dM_generalise_83 : decode prog_9_method_36_code 83 = .ok (.invokevirtual 275, 3) := by decide +kernel
theorem dM_generalise_86 : decode prog_9_method_36_code 86 = .ok (.aload_n 0, 1) := by decide +kernel
theorem dM_generalise_87 : decode prog_9_method_36_code 87 = .ok (.getfield 63, 3) := by decide +kernel
theorem dM_generalise_90 : decode prog_9_method_36_code 90 = .ok (.iload_n 3, 1) := by decide +kernel
theorem dM_generalise_91 : decode prog_9_method_36_code 91 = .ok (.iaload, 1) := by decide +kernel
theorem dM_generalise_92 : decode prog_9_method_36_code 92 = .ok (.istore_n 3, 1) := by decide +kernel
theorem dM_generalise_93 : decode prog_9_method_36_code 93 = .ok (.goto (-30), 3) := by decide +kernel
theorem dM_generalise_96 : decode prog_9_method_36_code 96 = .ok (.iconst 0, 1) := by decide +kernel
theorem dM_generalise_97 : decode prog_9_method_36_code 97 = .ok (.istore_n 3, 1) := by decide +kernel
theorem dM_generalise_98 : decode prog_9_method_36_code 98 = .ok (.iload_n 3, 1) := by decide +kernel
theorem dM_generalise_99 : decode prog_9_method_36_code 99 = .ok (.aload_n 0, 1) := by decide +kernel
theorem dM_generalise_100 : decode prog_9_method_36_code 100 = .ok (.getfield 263, 3) := by decide +kernel
theorem dM_generalise_103 : decode prog_9_method_36_code 103 = .ok (.if_icmp .ge 47, 3) := by decide +kernel
theorem dM_generalise_106 : decode prog_9_method_36_code 106 = .ok (.aload_n 0, 1) := by decide +kernel
theorem dM_generalise_107 : decode prog_9_method_36_code 107 = .ok (.getfield 115, 3) := by decide +kernel
theorem dM_generalise_110 : decode prog_9_method_36_code 110 = .ok (.aload_n 0, 1) := by decide +kernel
theorem dM_generalise_111 : decode prog_9_method_36_code 111 = .ok (.getfield 170, 3) := by decide +kernel
theorem dM_generalise_114 : decode prog_9_method_36_code 114 = .ok (.iload_n 3, 1) := by decide +kernel
theorem dM_generalise_115 : decode prog_9_method_36_code 115 = .ok (.iaload, 1) := by decide +kernel
theorem dM_generalise_116 : decode prog_9_method_36_code 116 = .ok (.iaload, 1) := by decide +kernel
theorem dM_generalise_117 : decode prog_9_method_36_code 117 = .ok (.iload_n 2, 1) := by decide +kernel
theorem dM_generalise_118 : decode prog_9_method_36_code 118 = .ok (.if_icmp .ne 26, 3) := by decide +kernel
theorem dM_generalise_121 : decode prog_9_method_36_code 121 = .ok (.aload_n 0, 1) := by decide +kernel
theorem dM_generalise_122 : decode prog_9_method_36_code 122 = .ok (.aload_n 0, 1) := by decide +kernel
theorem dM_generalise_123 : decode prog_9_method_36_code 123 = .ok (.getfield 170, 3) := by decide +kernel
theorem dM_generalise_126 : decode prog_9_method_36_code 126 = .ok (.iload_n 3, 1) := by decide +kernel
theorem dM_generalise_127 : decode prog_9_method_36_code 127 = .ok (.iaload, 1) := by decide +kernel
theorem dM_generalise_128 : decode prog_9_method_36_code 128 = .ok (.aload_n 0, 1) := by decide +kernel
theorem dM_generalise_129 : decode prog_9_method_36_code 129 = .ok (.getfield 173, 3) := by decide +kernel
theorem dM_generalise_132 : decode prog_9_method_36_code 132 = .ok (.iload_n 3, 1) := by decide +kernel
theorem dM_generalise_133 : decode prog_9_method_36_code 133 = .ok (.iaload, 1) := by decide +kernel
theorem dM_generalise_134 : decode prog_9_method_36_code 134 = .ok (.invokevirtual 278, 3) := by decide +kernel
theorem dM_generalise_137 : decode prog_9_method_36_code 137 = .ok (.aload_n 0, 1) := by decide +kernel
theorem dM_generalise_138 : decode prog_9_method_36_code 138 = .ok (.getfield 173, 3) := by decide +kernel
theorem dM_generalise_141 : decode prog_9_method_36_code 141 = .ok (.iload_n 3, 1) := by decide +kernel
theorem dM_generalise_142 : decode prog_9_method_36_code 142 = .ok (.iconst 0, 1) := by decide +kernel
theorem dM_generalise_143 : decode prog_9_method_36_code 143 = .ok (.iastore, 1) := by decide +kernel
theorem dM_generalise_144 : decode prog_9_method_36_code 144 = .ok (.iinc 3 1, 3) := by decide +kernel
theorem dM_generalise_147 : decode prog_9_method_36_code 147 = .ok (.goto (-49), 3) := by decide +kernel
theorem dM_generalise_150 : decode prog_9_method_36_code 150 = .ok (.aload_n 0, 1) := by decide +kernel
theorem dM_generalise_151 : decode prog_9_method_36_code 151 = .ok (.dup, 1) := by decide +kernel
theorem dM_generalise_152 : decode prog_9_method_36_code 152 = .ok (.getfield 247, 3) := by decide +kernel
theorem dM_generalise_155 : decode prog_9_method_36_code 155 = .ok (.iconst 1, 1) := by decide +kernel
theorem dM_generalise_156 : decode prog_9_method_36_code 156 = .ok (.iadd, 1) := by decide +kernel
theorem dM_generalise_157 : decode prog_9_method_36_code 157 = .ok (.putfield 247, 3) := by decide +kernel
theorem dM_generalise_160 : decode prog_9_method_36_code 160 = .ok (.aload_n 0, 1) := by decide +kernel
theorem dM_generalise_161 : decode prog_9_method_36_code 161 = .ok (.aload_n 0, 1) := by decide +kernel
theorem dM_generalise_162 : decode prog_9_method_36_code 162 = .ok (.getfield 75, 3) := by decide +kernel
theorem dM_generalise_165 : decode prog_9_method_36_code 165 = .ok (.aload_n 0, 1) := by decide +kernel
theorem dM_generalise_166 : decode prog_9_method_36_code 166 = .ok (.getfield 69, 3) := by decide +kernel
theorem dM_generalise_169 : decode prog_9_method_36_code 169 = .ok (.iload_n 1, 1) := by decide +kernel
theorem dM_generalise_170 : decode prog_9_method_36_code 170 = .ok (.iaload, 1) := by decide +kernel
theorem dM_generalise_171 : decode prog_9_method_36_code 171 = .ok (.iaload, 1) := by decide +kernel
theorem dM_generalise_172 : decode prog_9_method_36_code 172 = .ok (.invokevirtual 275, 3) := by decide +kernel
theorem dM_generalise_175 : decode prog_9_method_36_code 175 = .ok (.aload_n 0, 1) := by decide +kernel
theorem dM_generalise_176 : decode prog_9_method_36_code 176 = .ok (.getfield 81, 3) := by decide +kernel
theorem dM_generalise_179 : decode prog_9_method_36_code 179 = .ok (.iload_n 1, 1) := by decide +kernel
theorem dM_generalise_180 : decode prog_9_method_36_code 180 = .ok (.aload_n 0, 1) := by decide +kernel
theorem dM_generalise_181 : decode prog_9_method_36_code 181 = .ok (.getfield 282, 3) := by decide +kernel
theorem dM_generalise_184 : decode prog_9_method_36_code 184 = .ok (.iastore, 1) := by decide +kernel
theorem dM_generalise_185 : decode prog_9_method_36_code 185 = .ok (.iconst 0, 1) := by decide +kernel
theorem dM_generalise_186 : decode prog_9_method_36_code 186 = .ok (.istore_n 3, 1) := by decide +kernel
theorem dM_generalise_187 : decode prog_9_method_36_code 187 = .ok (.iload_n 3, 1) := by decide +kernel
theorem dM_generalise_188 : decode prog_9_method_36_code 188 = .ok (.aload_n 0, 1) := by decide +kernel
theorem dM_generalise_189 : decode prog_9_method_36_code 189 = .ok (.getfield 263, 3) := by decide +kernel
theorem dM_generalise_192 : decode prog_9_method_36_code 192 = .ok (.if_icmp .ge 108, 3) := by decide +kernel
theorem dM_generalise_195 : decode prog_9_method_36_code 195 = .ok (.aload_n 0, 1) := by decide +kernel
theorem dM_generalise_196 : decode prog_9_method_36_code 196 = .ok (.getfield 173, 3) := by decide +kernel
theorem dM_generalise_199 : decode prog_9_method_36_code 199 = .ok (.iload_n 3, 1) := by decide +kernel
theorem dM_generalise_200 : decode prog_9_method_36_code 200 = .ok (.iaload, 1) := by decide +kernel
theorem dM_generalise_201 : decode prog_9_method_36_code 201 = .ok (.ifCond .eq 68, 3) := by decide +kernel
theorem dM_generalise_204 : decode prog_9_method_36_code 204 = .ok (.aload_n 0, 1) := by decide +kernel
theorem dM_generalise_205 : decode prog_9_method_36_code 205 = .ok (.getfield 115, 3) := by decide +kernel
theorem dM_generalise_208 : decode prog_9_method_36_code 208 = .ok (.aload_n 0, 1) := by decide +kernel
theorem dM_generalise_209 : decode prog_9_method_36_code 209 = .ok (.getfield 170, 3) := by decide +kernel
theorem dM_generalise_212 : decode prog_9_method_36_code 212 = .ok (.iload_n 3, 1) := by decide +kernel
theorem dM_generalise_213 : decode prog_9_method_36_code 213 = .ok (.iaload, 1) := by decide +kernel
theorem dM_generalise_214 : decode prog_9_method_36_code 214 = .ok (.iaload, 1) := by decide +kernel
theorem dM_generalise_215 : decode prog_9_method_36_code 215 = .ok (.aload_n 0, 1) := by decide +kernel
theorem dM_generalise_216 : decode prog_9_method_36_code 216 = .ok (.getfield 247, 3) := by decide +kernel
theorem dM_generalise_219 : decode prog_9_method_36_code 219 = .ok (.if_icmp .ne 50, 3) := by decide +kernel
theorem dM_generalise_222 : decode prog_9_method_36_code 222 = .ok (.aload_n 0, 1) := by decide +kernel
theorem dM_generalise_223 : decode prog_9_method_36_code 223 = .ok (.getfield 96, 3) := by decide +kernel
theorem dM_generalise_226 : decode prog_9_method_36_code 226 = .ok (.aload_n 0, 1) := by decide +kernel
theorem dM_generalise_227 : decode prog_9_method_36_code 227 = .ok (.getfield 282, 3) := by decide +kernel
theorem dM_generalise_230 : decode prog_9_method_36_code 230 = .ok (.aload_n 0, 1) := by decide +kernel
theorem dM_generalise_231 : decode prog_9_method_36_code 231 = .ok (.getfield 170, 3) := by decide +kernel
theorem dM_generalise_234 : decode prog_9_method_36_code 234 = .ok (.iload_n 3, 1) := by decide +kernel
theorem dM_generalise_235 : decode prog_9_method_36_code 235 = .ok (.iaload, 1) := by decide +kernel
theorem dM_generalise_236 : decode prog_9_method_36_code 236 = .ok (.iastore, 1) := by decide +kernel
theorem dM_generalise_237 : decode prog_9_method_36_code 237 = .ok (.aload_n 0, 1) := by decide +kernel
theorem dM_generalise_238 : decode prog_9_method_36_code 238 = .ok (.getfield 99, 3) := by decide +kernel
theorem dM_generalise_241 : decode prog_9_method_36_code 241 = .ok (.aload_n 0, 1) := by decide +kernel
theorem dM_generalise_242 : decode prog_9_method_36_code 242 = .ok (.getfield 282, 3) := by decide +kernel
theorem dM_generalise_245 : decode prog_9_method_36_code 245 = .ok (.aload_n 0, 1) := by decide +kernel
theorem dM_generalise_246 : decode prog_9_method_36_code 246 = .ok (.aload_n 0, 1) := by decide +kernel
theorem dM_generalise_247 : decode prog_9_method_36_code 247 = .ok (.getfield 173, 3) := by decide +kernel
theorem dM_generalise_250 : decode prog_9_method_36_code 250 = .ok (.iload_n 3, 1) := by decide +kernel
theorem dM_generalise_251 : decode prog_9_method_36_code 251 = .ok (.iaload, 1) := by decide +kernel
theorem dM_generalise_252 : decode prog_9_method_36_code 252 = .ok (.invokevirtual 285, 3) := by decide +kernel
theorem dM_generalise_255 : decode prog_9_method_36_code 255 = .ok (.iastore, 1) := by decide +kernel
theorem dM_generalise_256 : decode prog_9_method_36_code 256 = .ok (.aload_n 0, 1) := by decide +kernel
theorem dM_generalise_257 : decode prog_9_method_36_code 257 = .ok (.dup, 1) := by decide +kernel
theorem dM_generalise_258 : decode prog_9_method_36_code 258 = .ok (.getfield 282, 3) := by decide +kernel
theorem dM_generalise_261 : decode prog_9_method_36_code 261 = .ok (.iconst 1, 1) := by decide +kernel
theorem dM_generalise_262 : decode prog_9_method_36_code 262 = .ok (.iadd, 1) := by decide +kernel
theorem dM_generalise_263 : decode prog_9_method_36_code 263 = .ok (.putfield 282, 3) := by decide +kernel
theorem dM_generalise_266 : decode prog_9_method_36_code 266 = .ok (.goto 28, 3) := by decide +kernel
theorem dM_generalise_269 : decode prog_9_method_36_code 269 = .ok (.aload_n 0, 1) := by decide +kernel
theorem dM_generalise_270 : decode prog_9_method_36_code 270 = .ok (.aload_n 0, 1) := by decide +kernel
theorem dM_generalise_271 : decode prog_9_method_36_code 271 = .ok (.getfield 288, 3) := by decide +kernel
theorem dM_generalise_274 : decode prog_9_method_36_code 274 = .ok (.ifCond .ne 12, 3) := by decide +kernel
theorem dM_generalise_277 : decode prog_9_method_36_code 277 = .ok (.aload_n 0, 1) := by decide +kernel
theorem dM_generalise_278 : decode prog_9_method_36_code 278 = .ok (.getfield 173, 3) := by decide +kernel
theorem dM_generalise_281 : decode prog_9_method_36_code 281 = .ok (.iload_n 3, 1) := by decide +kernel
theorem dM_generalise_282 : decode prog_9_method_36_code 282 = .ok (.iaload, 1) := by decide +kernel
theorem dM_generalise_283 : decode prog_9_method_36_code 283 = .ok (.ifCond .eq 7, 3) := by decide +kernel
theorem dM_generalise_286 : decode prog_9_method_36_code 286 = .ok (.iconst 1, 1) := by decide +kernel
theorem dM_generalise_287 : decode prog_9_method_36_code 287 = .ok (.goto 4, 3) := by decide +kernel
theorem dM_generalise_290 : decode prog_9_method_36_code 290 = .ok (.iconst 0, 1) := by decide +kernel
theorem dM_generalise_291 : decode prog_9_method_36_code 291 = .ok (.putfield 288, 3) := by decide +kernel
theorem dM_generalise_294 : decode prog_9_method_36_code 294 = .ok (.iinc 3 1, 3) := by decide +kernel
theorem dM_generalise_297 : decode prog_9_method_36_code 297 = .ok (.goto (-110), 3) := by decide +kernel
theorem dM_generalise_300 : decode prog_9_method_36_code 300 = .ok (.aload_n 0, 1) := by decide +kernel
theorem dM_generalise_301 : decode prog_9_method_36_code 301 = .ok (.getfield 84, 3) := by decide +kernel
theorem dM_generalise_304 : decode prog_9_method_36_code 304 = .ok (.iload_n 1, 1) := by decide +kernel
theorem dM_generalise_305 : decode prog_9_method_36_code 305 = .ok (.aload_n 0, 1) := by decide +kernel
theorem dM_generalise_306 : decode prog_9_method_36_code 306 = .ok (.getfield 282, 3) := by decide +kernel
theorem dM_generalise_309 : decode prog_9_method_36_code 309 = .ok (.aload_n 0, 1) := by decide +kernel
theorem dM_generalise_310 : decode prog_9_method_36_code 310 = .ok (.getfield 81, 3) := by decide +kernel
theorem dM_generalise_313 : decode prog_9_method_36_code 313 = .ok (.iload_n 1, 1) := by decide +kernel
theorem dM_generalise_314 : decode prog_9_method_36_code 314 = .ok (.iaload, 1) := by decide +kernel
theorem dM_generalise_315 : decode prog_9_method_36_code 315 = .ok (.isub, 1) := by decide +kernel
theorem dM_generalise_316 : decode prog_9_method_36_code 316 = .ok (.iastore, 1) := by decide +kernel
theorem dM_generalise_317 : decode prog_9_method_36_code 317 = .ok (.return_, 1) := by decide +kernel
theorem dM_copied_0 : decode prog_9_method_38_code 0 = .ok (.iload_n 1, 1) := by decide +kernel
theorem dM_copied_1 : decode prog_9_method_38_code 1 = .ok (.ifCond .ge 7, 3) := by decide +kernel
theorem dM_copied_4 : decode prog_9_method_38_code 4 = .ok (.iconst (-1), 1) := by decide +kernel
theorem dM_copied_5 : decode prog_9_method_38_code 5 = .ok (.goto 38, 3) := by decide +kernel
theorem dM_copied_8 : decode prog_9_method_38_code 8 = .ok (.aload_n 0, 1) := by decide +kernel
theorem dM_copied_9 : decode prog_9_method_38_code 9 = .ok (.getfield 115, 3) := by decide +kernel
theorem dM_copied_12 : decode prog_9_method_38_code 12 = .ok (.aload_n 0, 1) := by decide +kernel
theorem dM_copied_13 : decode prog_9_method_38_code 13 = .ok (.iload_n 1, 1) := by decide +kernel
theorem dM_copied_14 : decode prog_9_method_38_code 14 = .ok (.invokevirtual 241, 3) := by decide +kernel
theorem dM_copied_17 : decode prog_9_method_38_code 17 = .ok (.iaload, 1) := by decide +kernel
theorem dM_copied_18 : decode prog_9_method_38_code 18 = .ok (.aload_n 0, 1) := by decide +kernel
theorem dM_copied_19 : decode prog_9_method_38_code 19 = .ok (.getfield 247, 3) := by decide +kernel
theorem dM_copied_22 : decode prog_9_method_38_code 22 = .ok (.if_icmp .ne 16, 3) := by decide +kernel
theorem dM_copied_25 : decode prog_9_method_38_code 25 = .ok (.aload_n 0, 1) := by decide +kernel
theorem dM_copied_26 : decode prog_9_method_38_code 26 = .ok (.getfield 118, 3) := by decide +kernel
theorem dM_copied_29 : decode prog_9_method_38_code 29 = .ok (.aload_n 0, 1) := by decide +kernel
theorem dM_copied_30 : decode prog_9_method_38_code 30 = .ok (.iload_n 1, 1) := by decide +kernel
theorem dM_copied_31 : decode prog_9_method_38_code 31 = .ok (.invokevirtual 241, 3) := by decide +kernel
theorem dM_copied_34 : decode prog_9_method_38_code 34 = .ok (.iaload, 1) := by decide +kernel
theorem dM_copied_35 : decode prog_9_method_38_code 35 = .ok (.goto 8, 3) := by decide +kernel
theorem dM_copied_38 : decode prog_9_method_38_code 38 = .ok (.aload_n 0, 1) := by decide +kernel
theorem dM_copied_39 : decode prog_9_method_38_code 39 = .ok (.iload_n 1, 1) := by decide +kernel
theorem dM_copied_40 : decode prog_9_method_38_code 40 = .ok (.invokevirtual 241, 3) := by decide +kernel
theorem dM_copied_43 : decode prog_9_method_38_code 43 = .ok (.ireturn, 1) := by decide +kernel
theorem dM_copyOf_0 : decode prog_9_method_37_code 0 = .ok (.aload_n 0, 1) := by decide +kernel
theorem dM_copyOf_1 : decode prog_9_method_37_code 1 = .ok (.iconst 0, 1) := by decide +kernel
theorem dM_copyOf_2 : decode prog_9_method_37_code 2 = .ok (.putfield 250, 3) := by decide +kernel
theorem dM_copyOf_5 : decode prog_9_method_37_code 5 = .ok (.aload_n 0, 1) := by decide +kernel
theorem dM_copyOf_6 : decode prog_9_method_37_code 6 = .ok (.dup, 1) := by decide +kernel
theorem dM_copyOf_7 : decode prog_9_method_37_code 7 = .ok (.getfield 247, 3) := by decide +kernel
theorem dM_copyOf_10 : decode prog_9_method_37_code 10 = .ok (.iconst 1, 1) := by decide +kernel
theorem dM_copyOf_11 : decode prog_9_method_37_code 11 = .ok (.iadd, 1) := by decide +kernel
theorem dM_copyOf_12 : decode prog_9_method_37_code 12 = .ok (.putfield 247, 3) := by decide +kernel
theorem dM_copyOf_15 : decode prog_9_method_37_code 15 = .ok (.aload_n 0, 1) := by decide +kernel
theorem dM_copyOf_16 : decode prog_9_method_37_code 16 = .ok (.getfield 247, 3) := by decide +kernel
theorem dM_copyOf_19 : decode prog_9_method_37_code 19 = .ok (.istore_n 2, 1) := by decide +kernel
theorem dM_copyOf_20 : decode prog_9_method_37_code 20 = .ok (.aload_n 0, 1) := by decide +kernel
theorem dM_copyOf_21 : decode prog_9_method_37_code 21 = .ok (.getfield 63, 3) := by decide +kernel
theorem dM_copyOf_24 : decode prog_9_method_37_code 24 = .ok (.iload_n 1, 1) := by decide +kernel
theorem dM_copyOf_25 : decode prog_9_method_37_code 25 = .ok (.iaload, 1) := by decide +kernel
theorem dM_copyOf_26 : decode prog_9_method_37_code 26 = .ok (.istore_n 3, 1) := by decide +kernel
theorem dM_copyOf_27 : decode prog_9_method_37_code 27 = .ok (.iload_n 3, 1) := by decide +kernel
theorem dM_copyOf_28 : decode prog_9_method_37_code 28 = .ok (.ifCond .lt 32, 3) := by decide +kernel
theorem dM_copyOf_31 : decode prog_9_method_37_code 31 = .ok (.aload_n 0, 1) := by decide +kernel
theorem dM_copyOf_32 : decode prog_9_method_37_code 32 = .ok (.iload_n 3, 1) := by decide +kernel
theorem dM_copyOf_33 : decode prog_9_method_37_code 33 = .ok (.invokevirtual 227, 3) := by decide +kernel
theorem dM_copyOf_36 : decode prog_9_method_37_code 36 = .ok (.iconst 1, 1) := by decide +kernel
theorem dM_copyOf_37 : decode prog_9_method_37_code 37 = .ok (.if_icmp .ne 13, 3) := by decide +kernel
theorem dM_copyOf_40 : decode prog_9_method_37_code 40 = .ok (.aload_n 0, 1) := by decide +kernel
theorem dM_copyOf_41 : decode prog_9_method_37_code 41 = .ok (.aload_n 0, 1) := by decide +kernel
theorem dM_copyOf_42 : decode prog_9_method_37_code 42 = .ok (.getfield 78, 3) := by decide +kernel
theorem dM_copyOf_45 : decode prog_9_method_37_code 45 = .ok (.iload_n 3, 1) := by decide +kernel
theorem dM_copyOf_46 : decode prog_9_method_37_code 46 = .ok (.iaload, 1) := by decide +kernel
theorem dM_copyOf_47 : decode prog_9_method_37_code 47 = .ok (.invokevirtual 275, 3) := by decide +kernel
theorem dM_copyOf_50 : decode prog_9_method_37_code 50 = .ok (.aload_n 0, 1) := by decide +kernel
theorem dM_copyOf_51 : decode prog_9_method_37_code 51 = .ok (.getfield 63, 3) := by decide +kernel
theorem dM_copyOf_54 : decode prog_9_method_37_code 54 = .ok (.iload_n 3, 1) := by decide +kernel
theorem dM_copyOf_55 : decode prog_9_method_37_code 55 = .ok (.iaload, 1) := by decide +kernel
theorem dM_copyOf_56 : decode prog_9_method_37_code 56 = .ok (.istore_n 3, 1) := by decide +kernel
theorem dM_copyOf_57 : decode prog_9_method_37_code 57 = .ok (.goto (-30), 3) := by decide +kernel
theorem dM_copyOf_60 : decode prog_9_method_37_code 60 = .ok (.aload_n 0, 1) := by decide +kernel
theorem dM_copyOf_61 : decode prog_9_method_37_code 61 = .ok (.iconst 0, 1) := by decide +kernel
theorem dM_copyOf_62 : decode prog_9_method_37_code 62 = .ok (.putfield 250, 3) := by decide +kernel
theorem dM_copyOf_65 : decode prog_9_method_37_code 65 = .ok (.aload_n 0, 1) := by decide +kernel
theorem dM_copyOf_66 : decode prog_9_method_37_code 66 = .ok (.aload_n 0, 1) := by decide +kernel
theorem dM_copyOf_67 : decode prog_9_method_37_code 67 = .ok (.getfield 75, 3) := by decide +kernel
theorem dM_copyOf_70 : decode prog_9_method_37_code 70 = .ok (.aload_n 0, 1) := by decide +kernel
theorem dM_copyOf_71 : decode prog_9_method_37_code 71 = .ok (.getfield 69, 3) := by decide +kernel
theorem dM_copyOf_74 : decode prog_9_method_37_code 74 = .ok (.iload_n 1, 1) := by decide +kernel
theorem dM_copyOf_75 : decode prog_9_method_37_code 75 = .ok (.iaload, 1) := by decide +kernel
theorem dM_copyOf_76 : decode prog_9_method_37_code 76 = .ok (.iaload, 1) := by decide +kernel
theorem dM_copyOf_77 : decode prog_9_method_37_code 77 = .ok (.invokevirtual 241, 3) := by decide +kernel
theorem dM_copyOf_80 : decode prog_9_method_37_code 80 = .ok (.istore_n 3, 1) := by decide +kernel
theorem dM_copyOf_81 : decode prog_9_method_37_code 81 = .ok (.iconst 1, 1) := by decide +kernel
theorem dM_copyOf_82 : decode prog_9_method_37_code 82 = .ok (.istore 4, 2) := by decide +kernel
theorem dM_copyOf_84 : decode prog_9_method_37_code 84 = .ok (.aload_n 0, 1) := by decide +kernel
theorem dM_copyOf_85 : decode prog_9_method_37_code 85 = .ok (.getfield 131, 3) := by decide +kernel
theorem dM_copyOf_88 : decode prog_9_method_37_code 88 = .ok (.iconst 0, 1) := by decide +kernel
theorem dM_copyOf_89 : decode prog_9_method_37_code 89 = .ok (.iload_n 3, 1) := by decide +kernel
theorem dM_copyOf_90 : decode prog_9_method_37_code 90 = .ok (.iastore, 1) := by decide +kernel
theorem dM_copyOf_91 : decode prog_9_method_37_code 91 = .ok (.aload_n 0, 1) := by decide +kernel
theorem dM_copyOf_92 : decode prog_9_method_37_code 92 = .ok (.dup, 1) := by decide +kernel
theorem dM_copyOf_93 : decode prog_9_method_37_code 93 = .ok (.getfield 247, 3) := by decide +kernel
theorem dM_copyOf_96 : decode prog_9_method_37_code 96 = .ok (.iconst 1, 1) := by decide +kernel
theorem dM_copyOf_97 : decode prog_9_method_37_code 97 = .ok (.iadd, 1) := by decide +kernel
theorem dM_copyOf_98 : decode prog_9_method_37_code 98 = .ok (.putfield 247, 3) := by decide +kernel
theorem dM_copyOf_101 : decode prog_9_method_37_code 101 = .ok (.iload 4, 2) := by decide +kernel
theorem dM_copyOf_103 : decode prog_9_method_37_code 103 = .ok (.ifCond .le 153, 3) := by decide +kernel
theorem dM_copyOf_106 : decode prog_9_method_37_code 106 = .ok (.iinc 4 (-1), 3) := by decide +kernel
theorem dM_copyOf_109 : decode prog_9_method_37_code 109 = .ok (.aload_n 0, 1) := by decide +kernel
theorem dM_copyOf_110 : decode prog_9_method_37_code 110 = .ok (.aload_n 0, 1) := by decide +kernel
theorem dM_copyOf_111 : decode prog_9_method_37_code 111 = .ok (.getfield 131, 3) := by decide +kernel
theorem dM_copyOf_114 : decode prog_9_method_37_code 114 = .ok (.iload 4, 2) := by decide +kernel
theorem dM_copyOf_116 : decode prog_9_method_37_code 116 = .ok (.iaload, 1) := by decide +kernel
theorem dM_copyOf_117 : decode prog_9_method_37_code 117 = .ok (.invokevirtual 241, 3) := by decide +kernel
theorem dM_copyOf_120 : decode prog_9_method_37_code 120 = .ok (.istore 5, 2) := by decide +kernel
theorem dM_copyOf_122 : decode prog_9_method_37_code 122 = .ok (.aload_n 0, 1) := by decide +kernel
theorem dM_copyOf_123 : decode prog_9_method_37_code 123 = .ok (.getfield 115, 3) := by decide +kernel
theorem dM_copyOf_126 : decode prog_9_method_37_code 126 = .ok (.iload 5, 2) := by decide +kernel
theorem dM_copyOf_128 : decode prog_9_method_37_code 128 = .ok (.iaload, 1) := by decide +kernel
theorem dM_copyOf_129 : decode prog_9_method_37_code 129 = .ok (.aload_n 0, 1) := by decide +kernel
theorem dM_copyOf_130 : decode prog_9_method_37_code 130 = .ok (.getfield 247, 3) := by decide +kernel
theorem dM_copyOf_133 : decode prog_9_method_37_code 133 = .ok (.if_icmp .eq 120, 3) := by decide +kernel
theorem dM_copyOf_136 : decode prog_9_method_37_code 136 = .ok (.aload_n 0, 1) := by decide +kernel
theorem dM_copyOf_137 : decode prog_9_method_37_code 137 = .ok (.getfield 115, 3) := by decide +kernel
theorem dM_copyOf_140 : decode prog_9_method_37_code 140 = .ok (.iload 5, 2) := by decide +kernel
theorem dM_copyOf_142 : decode prog_9_method_37_code 142 = .ok (.iaload, 1) := by decide +kernel
theorem dM_copyOf_143 : decode prog_9_method_37_code 143 = .ok (.iload_n 2, 1) := by decide +kernel
theorem dM_copyOf_144 : decode prog_9_method_37_code 144 = .ok (.if_icmp .eq 109, 3) := by decide +kernel
theorem dM_copyOf_147 : decode prog_9_method_37_code 147 = .ok (.aload_n 0, 1) := by decide +kernel
theorem dM_copyOf_148 : decode prog_9_method_37_code 148 = .ok (.getfield 115, 3) := by decide +kernel
theorem dM_copyOf_151 : decode prog_9_method_37_code 151 = .ok (.iload 5, 2) := by decide +kernel
theorem dM_copyOf_153 : decode prog_9_method_37_code 153 = .ok (.aload_n 0, 1) := by decide +kernel
theorem dM_copyOf_154 : decode prog_9_method_37_code 154 = .ok (.getfield 247, 3) := by decide +kernel
theorem dM_copyOf_157 : decode prog_9_method_37_code 157 = .ok (.iastore, 1) := by decide +kernel
theorem dM_copyOf_158 : decode prog_9_method_37_code 158 = .ok (.aload_n 0, 1) := by decide +kernel
theorem dM_copyOf_159 : decode prog_9_method_37_code 159 = .ok (.getfield 134, 3) := by decide +kernel
theorem dM_copyOf_162 : decode prog_9_method_37_code 162 = .ok (.aload_n 0, 1) := by decide +kernel
theorem dM_copyOf_163 : decode prog_9_method_37_code 163 = .ok (.getfield 250, 3) := by decide +kernel
theorem dM_copyOf_166 : decode prog_9_method_37_code 166 = .ok (.iload 5, 2) := by decide +kernel
theorem dM_copyOf_168 : decode prog_9_method_37_code 168 = .ok (.iastore, 1) := by decide +kernel
theorem dM_copyOf_169 : decode prog_9_method_37_code 169 = .ok (.aload_n 0, 1) := by decide +kernel
theorem dM_copyOf_170 : decode prog_9_method_37_code 170 = .ok (.dup, 1) := by decide +kernel
theorem dM_copyOf_171 : decode prog_9_method_37_code 171 = .ok (.getfield 250, 3) := by decide +kernel
theorem dM_copyOf_174 : decode prog_9_method_37_code 174 = .ok (.iconst 1, 1) := by decide +kernel
theorem dM_copyOf_175 : decode prog_9_method_37_code 175 = .ok (.iadd, 1) := by decide +kernel
theorem dM_copyOf_176 : decode prog_9_method_37_code 176 = .ok (.putfield 250, 3) := by decide +kernel
theorem dM_copyOf_179 : decode prog_9_method_37_code 179 = .ok (.aload_n 0, 1) := by decide +kernel
theorem dM_copyOf_180 : decode prog_9_method_37_code 180 = .ok (.getfield 118, 3) := by decide +kernel
theorem dM_copyOf_183 : decode prog_9_method_37_code 183 = .ok (.iload 5, 2) := by decide +kernel
theorem dM_copyOf_185 : decode prog_9_method_37_code 185 = .ok (.aload_n 0, 1) := by decide +kernel
theorem dM_copyOf_186 : decode prog_9_method_37_code 186 = .ok (.aload_n 0, 1) := by decide +kernel
theorem dM_copyOf_187 : decode prog_9_method_37_code 187 = .ok (.getfield 106, 3) := by decide +kernel
theorem dM_copyOf_190 : decode prog_9_method_37_code 190 = .ok (.iload 5, 2) := by decide +kernel
theorem dM_copyOf_192 : decode prog_9_method_37_code 192 = .ok (.iaload, 1) := by decide +kernel
theorem dM_copyOf_193 : decode prog_9_method_37_code 193 = .ok (.iconst (-1), 1) := by decide +kernel
theorem dM_copyOf_194 : decode prog_9_method_37_code 194 = .ok (.iconst (-1), 1) := by decide +kernel
theorem dM_copyOf_195 : decode prog_9_method_37_code 195 = .ok (.invokevirtual 234, 3) := by decide +kernel
theorem dM_copyOf_198 : decode prog_9_method_37_code 198 = .ok (.iastore, 1) := by decide +kernel
theorem dM_copyOf_199 : decode prog_9_method_37_code 199 = .ok (.aload_n 0, 1) := by decide +kernel
theorem dM_copyOf_200 : decode prog_9_method_37_code 200 = .ok (.getfield 109, 3) := by decide +kernel
theorem dM_copyOf_203 : decode prog_9_method_37_code 203 = .ok (.iload 5, 2) := by decide +kernel
theorem dM_copyOf_205 : decode prog_9_method_37_code 205 = .ok (.iaload, 1) := by decide +kernel
theorem dM_copyOf_206 : decode prog_9_method_37_code 206 = .ok (.ifCond .lt 20, 3) := by decide +kernel
theorem dM_copyOf_209 : decode prog_9_method_37_code 209 = .ok (.aload_n 0, 1) := by decide +kernel
theorem dM_copyOf_210 : decode prog_9_method_37_code 210 = .ok (.getfield 131, 3) := by decide +kernel
theorem dM_copyOf_213 : decode prog_9_method_37_code 213 = .ok (.iload 4, 2) := by decide +kernel
theorem dM_copyOf_215 : decode prog_9_method_37_code 215 = .ok (.aload_n 0, 1) := by decide +kernel
theorem dM_copyOf_216 : decode prog_9_method_37_code 216 = .ok (.getfield 109, 3) := by decide +kernel
theorem dM_copyOf_219 : decode prog_9_method_37_code 219 = .ok (.iload 5, 2) := by decide +kernel
theorem dM_copyOf_221 : decode prog_9_method_37_code 221 = .ok (.iaload, 1) := by decide +kernel
theorem dM_copyOf_222 : decode prog_9_method_37_code 222 = .ok (.iastore, 1) := by decide +kernel
theorem dM_copyOf_223 : decode prog_9_method_37_code 223 = .ok (.iinc 4 1, 3) := by decide +kernel
theorem dM_copyOf_226 : decode prog_9_method_37_code 226 = .ok (.aload_n 0, 1) := by decide +kernel
theorem dM_copyOf_227 : decode prog_9_method_37_code 227 = .ok (.getfield 112, 3) := by decide +kernel
theorem dM_copyOf_230 : decode prog_9_method_37_code 230 = .ok (.iload 5, 2) := by decide +kernel
theorem dM_copyOf_232 : decode prog_9_method_37_code 232 = .ok (.iaload, 1) := by decide +kernel
theorem dM_copyOf_233 : decode prog_9_method_37_code 233 = .ok (.ifCond .lt 20, 3) := by decide +kernel
theorem dM_copyOf_236 : decode prog_9_method_37_code 236 = .ok (.aload_n 0, 1) := by decide +kernel
theorem dM_copyOf_237 : decode prog_9_method_37_code 237 = .ok (.getfield 131, 3) := by decide +kernel
theorem dM_copyOf_240 : decode prog_9_method_37_code 240 = .ok (.iload 4, 2) := by decide +kernel
theorem dM_copyOf_242 : decode prog_9_method_37_code 242 = .ok (.aload_n 0, 1) := by decide +kernel
theorem dM_copyOf_243 : decode prog_9_method_37_code 243 = .ok (.getfield 112, 3) := by decide +kernel
theorem dM_copyOf_246 : decode prog_9_method_37_code 246 = .ok (.iload 5, 2) := by decide +kernel
theorem dM_copyOf_248 : decode prog_9_method_37_code 248 = .ok (.iaload, 1) := by decide +kernel
theorem dM_copyOf_249 : decode prog_9_method_37_code 249 = .ok (.iastore, 1) := by decide +kernel
theorem dM_copyOf_250 : decode prog_9_method_37_code 250 = .ok (.iinc 4 1, 3) := by decide +kernel
theorem dM_copyOf_253 : decode prog_9_method_37_code 253 = .ok (.goto (-152), 3) := by decide +kernel
theorem dM_copyOf_256 : decode prog_9_method_37_code 256 = .ok (.iconst 0, 1) := by decide +kernel
theorem dM_copyOf_257 : decode prog_9_method_37_code 257 = .ok (.istore 5, 2) := by decide +kernel
theorem dM_copyOf_259 : decode prog_9_method_37_code 259 = .ok (.iload 5, 2) := by decide +kernel
theorem dM_copyOf_261 : decode prog_9_method_37_code 261 = .ok (.aload_n 0, 1) := by decide +kernel
theorem dM_copyOf_262 : decode prog_9_method_37_code 262 = .ok (.getfield 250, 3) := by decide +kernel
theorem dM_copyOf_265 : decode prog_9_method_37_code 265 = .ok (.if_icmp .ge 64, 3) := by decide +kernel
theorem dM_copyOf_268 : decode prog_9_method_37_code 268 = .ok (.aload_n 0, 1) := by decide +kernel
theorem dM_copyOf_269 : decode prog_9_method_37_code 269 = .ok (.getfield 134, 3) := by decide +kernel
theorem dM_copyOf_272 : decode prog_9_method_37_code 272 = .ok (.iload 5, 2) := by decide +kernel
theorem dM_copyOf_274 : decode prog_9_method_37_code 274 = .ok (.iaload, 1) := by decide +kernel
theorem dM_copyOf_275 : decode prog_9_method_37_code 275 = .ok (.istore 6, 2) := by decide +kernel
theorem dM_copyOf_277 : decode prog_9_method_37_code 277 = .ok (.aload_n 0, 1) := by decide +kernel
theorem dM_copyOf_278 : decode prog_9_method_37_code 278 = .ok (.getfield 109, 3) := by decide +kernel
theorem dM_copyOf_281 : decode prog_9_method_37_code 281 = .ok (.aload_n 0, 1) := by decide +kernel
theorem dM_copyOf_282 : decode prog_9_method_37_code 282 = .ok (.getfield 118, 3) := by decide +kernel
theorem dM_copyOf_285 : decode prog_9_method_37_code 285 = .ok (.iload 6, 2) := by decide +kernel
theorem dM_copyOf_287 : decode prog_9_method_37_code 287 = .ok (.iaload, 1) := by decide +kernel
theorem dM_copyOf_288 : decode prog_9_method_37_code 288 = .ok (.aload_n 0, 1) := by decide +kernel
theorem dM_copyOf_289 : decode prog_9_method_37_code 289 = .ok (.aload_n 0, 1) := by decide +kernel
theorem dM_copyOf_290 : decode prog_9_method_37_code 290 = .ok (.getfield 109, 3) := by decide +kernel
theorem dM_copyOf_293 : decode prog_9_method_37_code 293 = .ok (.iload 6, 2) := by decide +kernel
theorem dM_copyOf_295 : decode prog_9_method_37_code 295 = .ok (.iaload, 1) := by decide +kernel
theorem dM_copyOf_296 : decode prog_9_method_37_code 296 = .ok (.invokevirtual 291, 3) := by decide +kernel
theorem dM_copyOf_299 : decode prog_9_method_37_code 299 = .ok (.iastore, 1) := by decide +kernel
theorem dM_copyOf_300 : decode prog_9_method_37_code 300 = .ok (.aload_n 0, 1) := by decide +kernel
theorem dM_copyOf_301 : decode prog_9_method_37_code 301 = .ok (.getfield 112, 3) := by decide +kernel
theorem dM_copyOf_304 : decode prog_9_method_37_code 304 = .ok (.aload_n 0, 1) := by decide +kernel
theorem dM_copyOf_305 : decode prog_9_method_37_code 305 = .ok (.getfield 118, 3) := by decide +kernel
theorem dM_copyOf_308 : decode prog_9_method_37_code 308 = .ok (.iload 6, 2) := by decide +kernel
theorem dM_copyOf_310 : decode prog_9_method_37_code 310 = .ok (.iaload, 1) := by decide +kernel
theorem dM_copyOf_311 : decode prog_9_method_37_code 311 = .ok (.aload_n 0, 1) := by decide +kernel
theorem dM_copyOf_312 : decode prog_9_method_37_code 312 = .ok (.aload_n 0, 1) := by decide +kernel
theorem dM_copyOf_313 : decode prog_9_method_37_code 313 = .ok (.getfield 112, 3) := by decide +kernel
theorem dM_copyOf_316 : decode prog_9_method_37_code 316 = .ok (.iload 6, 2) := by decide +kernel
theorem dM_copyOf_318 : decode prog_9_method_37_code 318 = .ok (.iaload, 1) := by decide +kernel
theorem dM_copyOf_319 : decode prog_9_method_37_code 319 = .ok (.invokevirtual 291, 3) := by decide +kernel
theorem dM_copyOf_322 : decode prog_9_method_37_code 322 = .ok (.iastore, 1) := by decide +kernel
theorem dM_copyOf_323 : decode prog_9_method_37_code 323 = .ok (.iinc 5 1, 3) := by decide +kernel
theorem dM_copyOf_326 : decode prog_9_method_37_code 326 = .ok (.goto (-67), 3) := by decide +kernel
theorem dM_copyOf_329 : decode prog_9_method_37_code 329 = .ok (.aload_n 0, 1) := by decide +kernel
theorem dM_copyOf_330 : decode prog_9_method_37_code 330 = .ok (.getfield 81, 3) := by decide +kernel
theorem dM_copyOf_333 : decode prog_9_method_37_code 333 = .ok (.iload_n 1, 1) := by decide +kernel
theorem dM_copyOf_334 : decode prog_9_method_37_code 334 = .ok (.iaload, 1) := by decide +kernel
theorem dM_copyOf_335 : decode prog_9_method_37_code 335 = .ok (.istore 5, 2) := by decide +kernel
theorem dM_copyOf_337 : decode prog_9_method_37_code 337 = .ok (.iload 5, 2) := by decide +kernel
theorem dM_copyOf_339 : decode prog_9_method_37_code 339 = .ok (.aload_n 0, 1) := by decide +kernel
theorem dM_copyOf_340 : decode prog_9_method_37_code 340 = .ok (.getfield 81, 3) := by decide +kernel
theorem dM_copyOf_343 : decode prog_9_method_37_code 343 = .ok (.iload_n 1, 1) := by decide +kernel
theorem dM_copyOf_344 : decode prog_9_method_37_code 344 = .ok (.iaload, 1) := by decide +kernel
theorem dM_copyOf_345 : decode prog_9_method_37_code 345 = .ok (.aload_n 0, 1) := by decide +kernel
theorem dM_copyOf_346 : decode prog_9_method_37_code 346 = .ok (.getfield 84, 3) := by decide +kernel
theorem dM_copyOf_349 : decode prog_9_method_37_code 349 = .ok (.iload_n 1, 1) := by decide +kernel
theorem dM_copyOf_350 : decode prog_9_method_37_code 350 = .ok (.iaload, 1) := by decide +kernel
theorem dM_copyOf_351 : decode prog_9_method_37_code 351 = .ok (.iadd, 1) := by decide +kernel
theorem dM_copyOf_352 : decode prog_9_method_37_code 352 = .ok (.if_icmp .ge 50, 3) := by decide +kernel
theorem dM_copyOf_355 : decode prog_9_method_37_code 355 = .ok (.aload_n 0, 1) := by decide +kernel
theorem dM_copyOf_356 : decode prog_9_method_37_code 356 = .ok (.aload_n 0, 1) := by decide +kernel
theorem dM_copyOf_357 : decode prog_9_method_37_code 357 = .ok (.aload_n 0, 1) := by decide +kernel
theorem dM_copyOf_358 : decode prog_9_method_37_code 358 = .ok (.getfield 96, 3) := by decide +kernel
theorem dM_copyOf_361 : decode prog_9_method_37_code 361 = .ok (.iload 5, 2) := by decide +kernel
theorem dM_copyOf_363 : decode prog_9_method_37_code 363 = .ok (.iaload, 1) := by decide +kernel
theorem dM_copyOf_364 : decode prog_9_method_37_code 364 = .ok (.invokevirtual 291, 3) := by decide +kernel
theorem dM_copyOf_367 : decode prog_9_method_37_code 367 = .ok (.aload_n 0, 1) := by decide +kernel
theorem dM_copyOf_368 : decode prog_9_method_37_code 368 = .ok (.getfield 99, 3) := by decide +kernel
theorem dM_copyOf_371 : decode prog_9_method_37_code 371 = .ok (.iload 5, 2) := by decide +kernel
theorem dM_copyOf_373 : decode prog_9_method_37_code 373 = .ok (.iaload, 1) := by decide +kernel
theorem dM_copyOf_374 : decode prog_9_method_37_code 374 = .ok (.invokevirtual 278, 3) := by decide +kernel
theorem dM_copyOf_377 : decode prog_9_method_37_code 377 = .ok (.aload_n 0, 1) := by decide +kernel
theorem dM_copyOf_378 : decode prog_9_method_37_code 378 = .ok (.aload_n 0, 1) := by decide +kernel
theorem dM_copyOf_379 : decode prog_9_method_37_code 379 = .ok (.getfield 294, 3) := by decide +kernel
theorem dM_copyOf_382 : decode prog_9_method_37_code 382 = .ok (.aload_n 0, 1) := by decide +kernel
theorem dM_copyOf_383 : decode prog_9_method_37_code 383 = .ok (.getfield 99, 3) := by decide +kernel
theorem dM_copyOf_386 : decode prog_9_method_37_code 386 = .ok (.iload 5, 2) := by decide +kernel
theorem dM_copyOf_388 : decode prog_9_method_37_code 388 = .ok (.iaload, 1) := by decide +kernel
theorem dM_copyOf_389 : decode prog_9_method_37_code 389 = .ok (.invokestatic 297, 3) := by decide +kernel
theorem dM_copyOf_392 : decode prog_9_method_37_code 392 = .ok (.iadd, 1) := by decide +kernel
theorem dM_copyOf_393 : decode prog_9_method_37_code 393 = .ok (.putfield 294, 3) := by decide +kernel
theorem dM_copyOf_396 : decode prog_9_method_37_code 396 = .ok (.iinc 5 1, 3) := by decide +kernel
theorem dM_copyOf_399 : decode prog_9_method_37_code 399 = .ok (.goto (-62), 3) := by decide +kernel
theorem dM_copyOf_402 : decode prog_9_method_37_code 402 = .ok (.aload_n 0, 1) := by decide +kernel
theorem dM_copyOf_403 : decode prog_9_method_37_code 403 = .ok (.iload_n 3, 1) := by decide +kernel
theorem dM_copyOf_404 : decode prog_9_method_37_code 404 = .ok (.invokevirtual 291, 3) := by decide +kernel
theorem dM_copyOf_407 : decode prog_9_method_37_code 407 = .ok (.ireturn, 1) := by decide +kernel
theorem dM_typeName_0 : decode prog_9_method_39_code 0 = .ok (.aload_n 0, 1) := by decide +kernel
theorem dM_typeName_1 : decode prog_9_method_39_code 1 = .ok (.iload_n 1, 1) := by decide +kernel
theorem dM_typeName_2 : decode prog_9_method_39_code 2 = .ok (.invokevirtual 300, 3) := by decide +kernel
theorem dM_typeName_5 : decode prog_9_method_39_code 5 = .ok (.istore_n 2, 1) := by decide +kernel
theorem dM_typeName_6 : decode prog_9_method_39_code 6 = .ok (.iload_n 2, 1) := by decide +kernel
theorem dM_typeName_7 : decode prog_9_method_39_code 7 = .ok (.ifCond .ge 11, 3) := by decide +kernel
theorem dM_typeName_10 : decode prog_9_method_39_code 10 = .ok (.aload_n 0, 1) := by decide +kernel
theorem dM_typeName_11 : decode prog_9_method_39_code 11 = .ok (.iconst 1, 1) := by decide +kernel
theorem dM_typeName_12 : decode prog_9_method_39_code 12 = .ok (.putfield 237, 3) := by decide +kernel
theorem dM_typeName_15 : decode prog_9_method_39_code 15 = .ok (.goto 32, 3) := by decide +kernel
theorem dM_typeName_18 : decode prog_9_method_39_code 18 = .ok (.aload_n 0, 1) := by decide +kernel
theorem dM_typeName_19 : decode prog_9_method_39_code 19 = .ok (.getfield 75, 3) := by decide +kernel
theorem dM_typeName_22 : decode prog_9_method_39_code 22 = .ok (.iload_n 1, 1) := by decide +kernel
theorem dM_typeName_23 : decode prog_9_method_39_code 23 = .ok (.aload_n 0, 1) := by decide +kernel
theorem dM_typeName_24 : decode prog_9_method_39_code 24 = .ok (.iload_n 2, 1) := by decide +kernel
theorem dM_typeName_25 : decode prog_9_method_39_code 25 = .ok (.invokevirtual 227, 3) := by decide +kernel
theorem dM_typeName_28 : decode prog_9_method_39_code 28 = .ok (.iconst 1, 1) := by decide +kernel
theorem dM_typeName_29 : decode prog_9_method_39_code 29 = .ok (.if_icmp .ne 12, 3) := by decide +kernel
theorem dM_typeName_32 : decode prog_9_method_39_code 32 = .ok (.aload_n 0, 1) := by decide +kernel
theorem dM_typeName_33 : decode prog_9_method_39_code 33 = .ok (.getfield 78, 3) := by decide +kernel
theorem dM_typeName_36 : decode prog_9_method_39_code 36 = .ok (.iload_n 2, 1) := by decide +kernel
theorem dM_typeName_37 : decode prog_9_method_39_code 37 = .ok (.iaload, 1) := by decide +kernel
theorem dM_typeName_38 : decode prog_9_method_39_code 38 = .ok (.goto 8, 3) := by decide +kernel
theorem dM_typeName_41 : decode prog_9_method_39_code 41 = .ok (.aload_n 0, 1) := by decide +kernel
theorem dM_typeName_42 : decode prog_9_method_39_code 42 = .ok (.iload_n 2, 1) := by decide +kernel
theorem dM_typeName_43 : decode prog_9_method_39_code 43 = .ok (.invokevirtual 303, 3) := by decide +kernel
theorem dM_typeName_46 : decode prog_9_method_39_code 46 = .ok (.iastore, 1) := by decide +kernel
theorem dM_typeName_47 : decode prog_9_method_39_code 47 = .ok (.return_, 1) := by decide +kernel
