theorem dM_is_0 : decode prog_9_method_51_code 0 = .ok (.aload_n 0, 1) := by decide +kernel
theorem dM_is_1 : decode prog_9_method_51_code 1 = .ok (.iconst 0, 1) := by decide +kernel
theorem dM_is_2 : decode prog_9_method_51_code 2 = .ok (.putfield 176, 3) := by decide +kernel
theorem dM_is_5 : decode prog_9_method_51_code 5 = .ok (.aload_n 0, 1) := by decide +kernel
theorem dM_is_6 : decode prog_9_method_51_code 6 = .ok (.iload_n 1, 1) := by decide +kernel
theorem dM_is_7 : decode prog_9_method_51_code 7 = .ok (.invokevirtual 193, 3) := by decide +kernel
theorem dM_is_10 : decode prog_9_method_51_code 10 = .ok (.ifCond .eq 17, 3) := by decide +kernel
theorem dM_is_13 : decode prog_9_method_51_code 13 = .ok (.iload_n 2, 1) := by decide +kernel
theorem dM_is_14 : decode prog_9_method_51_code 14 = .ok (.iconst 0, 1) := by decide +kernel
theorem dM_is_15 : decode prog_9_method_51_code 15 = .ok (.aload_n 0, 1) := by decide +kernel
theorem dM_is_16 : decode prog_9_method_51_code 16 = .ok (.getfield 183, 3) := by decide +kernel
theorem dM_is_19 : decode prog_9_method_51_code 19 = .ok (.iconst 1, 1) := by decide +kernel
theorem dM_is_20 : decode prog_9_method_51_code 20 = .ok (.isub, 1) := by decide +kernel
theorem dM_is_21 : decode prog_9_method_51_code 21 = .ok (.invokestatic 179, 3) := by decide +kernel
theorem dM_is_24 : decode prog_9_method_51_code 24 = .ok (.ifCond .ne 5, 3) := by decide +kernel
theorem dM_is_27 : decode prog_9_method_51_code 27 = .ok (.iconst (-1), 1) := by decide +kernel
theorem dM_is_28 : decode prog_9_method_51_code 28 = .ok (.ireturn, 1) := by decide +kernel
theorem dM_is_29 : decode prog_9_method_51_code 29 = .ok (.aload_n 0, 1) := by decide +kernel
theorem dM_is_30 : decode prog_9_method_51_code 30 = .ok (.iload_n 2, 1) := by decide +kernel
theorem dM_is_31 : decode prog_9_method_51_code 31 = .ok (.invokevirtual 197, 3) := by decide +kernel
theorem dM_is_34 : decode prog_9_method_51_code 34 = .ok (.iconst 1, 1) := by decide +kernel
theorem dM_is_35 : decode prog_9_method_51_code 35 = .ok (.istore_n 3, 1) := by decide +kernel
theorem dM_is_36 : decode prog_9_method_51_code 36 = .ok (.iconst 0, 1) := by decide +kernel
theorem dM_is_37 : decode prog_9_method_51_code 37 = .ok (.istore 4, 2) := by decide +kernel
theorem dM_is_39 : decode prog_9_method_51_code 39 = .ok (.iload 4, 2) := by decide +kernel
theorem dM_is_41 : decode prog_9_method_51_code 41 = .ok (.iload_n 2, 1) := by decide +kernel
theorem dM_is_42 : decode prog_9_method_51_code 42 = .ok (.if_icmp .gt 226, 3) := by decide +kernel
theorem dM_is_45 : decode prog_9_method_51_code 45 = .ok (.iload_n 3, 1) := by decide +kernel
theorem dM_is_46 : decode prog_9_method_51_code 46 = .ok (.ifCond .eq 27, 3) := by decide +kernel
theorem dM_is_49 : decode prog_9_method_51_code 49 = .ok (.aload_n 0, 1) := by decide +kernel
theorem dM_is_50 : decode prog_9_method_51_code 50 = .ok (.getfield 140, 3) := by decide +kernel
theorem dM_is_53 : decode prog_9_method_51_code 53 = .ok (.iload 4, 2) := by decide +kernel
theorem dM_is_55 : decode prog_9_method_51_code 55 = .ok (.baload, 1) := by decide +kernel
theorem dM_is_56 : decode prog_9_method_51_code 56 = .ok (.ifCond .eq 13, 3) := by decide +kernel
theorem dM_is_59 : decode prog_9_method_51_code 59 = .ok (.aload_n 0, 1) := by decide +kernel
theorem dM_is_60 : decode prog_9_method_51_code 60 = .ok (.getfield 17, 3) := by decide +kernel
theorem dM_is_63 : decode prog_9_method_51_code 63 = .ok (.iload 4, 2) := by decide +kernel
theorem dM_is_65 : decode prog_9_method_51_code 65 = .ok (.iaload, 1) := by decide +kernel
theorem dM_is_66 : decode prog_9_method_51_code 66 = .ok (.ifCond .lt 7, 3) := by decide +kernel
theorem dM_is_69 : decode prog_9_method_51_code 69 = .ok (.iconst 1, 1) := by decide +kernel
theorem dM_is_70 : decode prog_9_method_51_code 70 = .ok (.goto 4, 3) := by decide +kernel
theorem dM_is_73 : decode prog_9_method_51_code 73 = .ok (.iconst 0, 1) := by decide +kernel
theorem dM_is_74 : decode prog_9_method_51_code 74 = .ok (.istore_n 3, 1) := by decide +kernel
theorem dM_is_75 : decode prog_9_method_51_code 75 = .ok (.iconst 0, 1) := by decide +kernel
theorem dM_is_76 : decode prog_9_method_51_code 76 = .ok (.istore 5, 2) := by decide +kernel
theorem dM_is_78 : decode prog_9_method_51_code 78 = .ok (.iconst 0, 1) := by decide +kernel
theorem dM_is_79 : decode prog_9_method_51_code 79 = .ok (.istore 6, 2) := by decide +kernel
theorem dM_is_81 : decode prog_9_method_51_code 81 = .ok (.iload 6, 2) := by decide +kernel
theorem dM_is_83 : decode prog_9_method_51_code 83 = .ok (.aload_n 0, 1) := by decide +kernel
theorem dM_is_84 : decode prog_9_method_51_code 84 = .ok (.getfield 190, 3) := by decide +kernel
theorem dM_is_87 : decode prog_9_method_51_code 87 = .ok (.if_icmp .ge 166, 3) := by decide +kernel
theorem dM_is_90 : decode prog_9_method_51_code 90 = .ok (.aload_n 0, 1) := by decide +kernel
theorem dM_is_91 : decode prog_9_method_51_code 91 = .ok (.getfield 140, 3) := by decide +kernel
theorem dM_is_94 : decode prog_9_method_51_code 94 = .ok (.iload 4, 2) := by decide +kernel
theorem dM_is_96 : decode prog_9_method_51_code 96 = .ok (.baload, 1) := by decide +kernel
theorem dM_is_97 : decode prog_9_method_51_code 97 = .ok (.ifCond .eq 156, 3) := by decide +kernel
theorem dM_is_100 : decode prog_9_method_51_code 100 = .ok (.aload_n 0, 1) := by decide +kernel
theorem dM_is_101 : decode prog_9_method_51_code 101 = .ok (.getfield 17, 3) := by decide +kernel
theorem dM_is_104 : decode prog_9_method_51_code 104 = .ok (.iload 4, 2) := by decide +kernel
theorem dM_is_106 : decode prog_9_method_51_code 106 = .ok (.iaload, 1) := by decide +kernel
theorem dM_is_107 : decode prog_9_method_51_code 107 = .ok (.ifCond .lt 146, 3) := by decide +kernel
theorem dM_is_110 : decode prog_9_method_51_code 110 = .ok (.bipush 8, 2) := by decide +kernel
theorem dM_is_112 : decode prog_9_method_51_code 112 = .ok (.iload 6, 2) := by decide +kernel
theorem dM_is_114 : decode prog_9_method_51_code 114 = .ok (.imul, 1) := by decide +kernel
theorem dM_is_115 : decode prog_9_method_51_code 115 = .ok (.aload_n 0, 1) := by decide +kernel
theorem dM_is_116 : decode prog_9_method_51_code 116 = .ok (.getfield 17, 3) := by decide +kernel
theorem dM_is_119 : decode prog_9_method_51_code 119 = .ok (.iload 4, 2) := by decide +kernel
theorem dM_is_121 : decode prog_9_method_51_code 121 = .ok (.iaload, 1) := by decide +kernel
theorem dM_is_122 : decode prog_9_method_51_code 122 = .ok (.iadd, 1) := by decide +kernel
theorem dM_is_123 : decode prog_9_method_51_code 123 = .ok (.istore 7, 2) := by decide +kernel
theorem dM_is_125 : decode prog_9_method_51_code 125 = .ok (.aload_n 0, 1) := by decide +kernel
theorem dM_is_126 : decode prog_9_method_51_code 126 = .ok (.getfield 20, 3) := by decide +kernel
theorem dM_is_129 : decode prog_9_method_51_code 129 = .ok (.iload 4, 2) := by decide +kernel
theorem dM_is_131 : decode prog_9_method_51_code 131 = .ok (.iaload, 1) := by decide +kernel
theorem dM_is_132 : decode prog_9_method_51_code 132 = .ok (.ifCond .ge 7, 3) := by decide +kernel
theorem dM_is_135 : decode prog_9_method_51_code 135 = .ok (.iconst 0, 1) := by decide +kernel
theorem dM_is_136 : decode prog_9_method_51_code 136 = .ok (.goto 15, 3) := by decide +kernel
theorem dM_is_139 : decode prog_9_method_51_code 139 = .ok (.aload_n 0, 1) := by decide +kernel
theorem dM_is_140 : decode prog_9_method_51_code 140 = .ok (.getfield 137, 3) := by decide +kernel
theorem dM_is_143 : decode prog_9_method_51_code 143 = .ok (.aload_n 0, 1) := by decide +kernel
theorem dM_is_144 : decode prog_9_method_51_code 144 = .ok (.getfield 20, 3) := by decide +kernel
theorem dM_is_147 : decode prog_9_method_51_code 147 = .ok (.iload 4, 2) := by decide +kernel
theorem dM_is_149 : decode prog_9_method_51_code 149 = .ok (.iaload, 1) := by decide +kernel
theorem dM_is_150 : decode prog_9_method_51_code 150 = .ok (.iaload, 1) := by decide +kernel
theorem dM_is_151 : decode prog_9_method_51_code 151 = .ok (.istore 8, 2) := by decide +kernel
theorem dM_is_153 : decode prog_9_method_51_code 153 = .ok (.aload_n 0, 1) := by decide +kernel
theorem dM_is_154 : decode prog_9_method_51_code 154 = .ok (.getfield 23, 3) := by decide +kernel
theorem dM_is_157 : decode prog_9_method_51_code 157 = .ok (.iload 4, 2) := by decide +kernel
theorem dM_is_159 : decode prog_9_method_51_code 159 = .ok (.iaload, 1) := by decide +kernel
theorem dM_is_160 : decode prog_9_method_51_code 160 = .ok (.ifCond .ge 7, 3) := by decide +kernel
theorem dM_is_163 : decode prog_9_method_51_code 163 = .ok (.iconst 0, 1) := by decide +kernel
theorem dM_is_164 : decode prog_9_method_51_code 164 = .ok (.goto 15, 3) := by decide +kernel
theorem dM_is_167 : decode prog_9_method_51_code 167 = .ok (.aload_n 0, 1) := by decide +kernel
theorem dM_is_168 : decode prog_9_method_51_code 168 = .ok (.getfield 137, 3) := by decide +kernel
theorem dM_is_171 : decode prog_9_method_51_code 171 = .ok (.aload_n 0, 1) := by decide +kernel
theorem dM_is_172 : decode prog_9_method_51_code 172 = .ok (.getfield 23, 3) := by decide +kernel
theorem dM_is_175 : decode prog_9_method_51_code 175 = .ok (.iload 4, 2) := by decide +kernel
theorem dM_is_177 : decode prog_9_method_51_code 177 = .ok (.iaload, 1) := by decide +kernel
theorem dM_is_178 : decode prog_9_method_51_code 178 = .ok (.iaload, 1) := by decide +kernel
theorem dM_is_179 : decode prog_9_method_51_code 179 = .ok (.istore 9, 2) := by decide +kernel
theorem dM_is_181 : decode prog_9_method_51_code 181 = .ok (.aload_n 0, 1) := by decide +kernel
theorem dM_is_182 : decode prog_9_method_51_code 182 = .ok (.getfield 35, 3) := by decide +kernel
theorem dM_is_185 : decode prog_9_method_51_code 185 = .ok (.iload 7, 2) := by decide +kernel
theorem dM_is_187 : decode prog_9_method_51_code 187 = .ok (.baload, 1) := by decide +kernel
theorem dM_is_188 : decode prog_9_method_51_code 188 = .ok (.ifCond .eq 37, 3) := by decide +kernel
theorem dM_is_191 : decode prog_9_method_51_code 191 = .ok (.aload_n 0, 1) := by decide +kernel
theorem dM_is_192 : decode prog_9_method_51_code 192 = .ok (.getfield 39, 3) := by decide +kernel
theorem dM_is_195 : decode prog_9_method_51_code 195 = .ok (.iload 7, 2) := by decide +kernel
theorem dM_is_197 : decode prog_9_method_51_code 197 = .ok (.iaload, 1) := by decide +kernel
theorem dM_is_198 : decode prog_9_method_51_code 198 = .ok (.iload 8, 2) := by decide +kernel
theorem dM_is_200 : decode prog_9_method_51_code 200 = .ok (.iconst (-1), 1) := by decide +kernel
theorem dM_is_201 : decode prog_9_method_51_code 201 = .ok (.ixor, 1) := by decide +kernel
theorem dM_is_202 : decode prog_9_method_51_code 202 = .ok (.iand, 1) := by decide +kernel
theorem dM_is_203 : decode prog_9_method_51_code 203 = .ok (.ifCond .ne 22, 3) := by decide +kernel
theorem dM_is_206 : decode prog_9_method_51_code 206 = .ok (.aload_n 0, 1) := by decide +kernel
theorem dM_is_207 : decode prog_9_method_51_code 207 = .ok (.getfield 42, 3) := by decide +kernel
theorem dM_is_210 : decode prog_9_method_51_code 210 = .ok (.iload 7, 2) := by decide +kernel
theorem dM_is_212 : decode prog_9_method_51_code 212 = .ok (.iaload, 1) := by decide +kernel
theorem dM_is_213 : decode prog_9_method_51_code 213 = .ok (.iload 9, 2) := by decide +kernel
theorem dM_is_215 : decode prog_9_method_51_code 215 = .ok (.iconst (-1), 1) := by decide +kernel
theorem dM_is_216 : decode prog_9_method_51_code 216 = .ok (.ixor, 1) := by decide +kernel
theorem dM_is_217 : decode prog_9_method_51_code 217 = .ok (.iand, 1) := by decide +kernel
theorem dM_is_218 : decode prog_9_method_51_code 218 = .ok (.ifCond .ne 7, 3) := by decide +kernel
theorem dM_is_221 : decode prog_9_method_51_code 221 = .ok (.iconst 1, 1) := by decide +kernel
theorem dM_is_222 : decode prog_9_method_51_code 222 = .ok (.goto 4, 3) := by decide +kernel
theorem dM_is_225 : decode prog_9_method_51_code 225 = .ok (.iconst 0, 1) := by decide +kernel
theorem dM_is_226 : decode prog_9_method_51_code 226 = .ok (.istore 10, 2) := by decide +kernel
theorem dM_is_228 : decode prog_9_method_51_code 228 = .ok (.iload 10, 2) := by decide +kernel
theorem dM_is_230 : decode prog_9_method_51_code 230 = .ok (.ifCond .eq 13, 3) := by decide +kernel
theorem dM_is_233 : decode prog_9_method_51_code 233 = .ok (.iload 5, 2) := by decide +kernel
theorem dM_is_235 : decode prog_9_method_51_code 235 = .ok (.iconst 1, 1) := by decide +kernel
theorem dM_is_236 : decode prog_9_method_51_code 236 = .ok (.iload 6, 2) := by decide +kernel
theorem dM_is_238 : decode prog_9_method_51_code 238 = .ok (.ishl, 1) := by decide +kernel
theorem dM_is_239 : decode prog_9_method_51_code 239 = .ok (.ior, 1) := by decide +kernel
theorem dM_is_240 : decode prog_9_method_51_code 240 = .ok (.goto 5, 3) := by decide +kernel
theorem dM_is_243 : decode prog_9_method_51_code 243 = .ok (.iload 5, 2) := by decide +kernel
theorem dM_is_245 : decode prog_9_method_51_code 245 = .ok (.istore 5, 2) := by decide +kernel
theorem dM_is_247 : decode prog_9_method_51_code 247 = .ok (.iinc 6 1, 3) := by decide +kernel
theorem dM_is_250 : decode prog_9_method_51_code 250 = .ok (.goto (-169), 3) := by decide +kernel
theorem dM_is_253 : decode prog_9_method_51_code 253 = .ok (.aload_n 0, 1) := by decide +kernel
theorem dM_is_254 : decode prog_9_method_51_code 254 = .ok (.getfield 137, 3) := by decide +kernel
theorem dM_is_257 : decode prog_9_method_51_code 257 = .ok (.iload 4, 2) := by decide +kernel
theorem dM_is_259 : decode prog_9_method_51_code 259 = .ok (.iload 5, 2) := by decide +kernel
theorem dM_is_261 : decode prog_9_method_51_code 261 = .ok (.iastore, 1) := by decide +kernel
theorem dM_is_262 : decode prog_9_method_51_code 262 = .ok (.iinc 4 1, 3) := by decide +kernel
theorem dM_is_265 : decode prog_9_method_51_code 265 = .ok (.goto (-226), 3) := by decide +kernel
theorem dM_is_268 : decode prog_9_method_51_code 268 = .ok (.iload_n 3, 1) := by decide +kernel
theorem dM_is_269 : decode prog_9_method_51_code 269 = .ok (.ifCond .ne 7, 3) := by decide +kernel
theorem dM_is_272 : decode prog_9_method_51_code 272 = .ok (.iconst (-1), 1) := by decide +kernel
theorem dM_is_273 : decode prog_9_method_51_code 273 = .ok (.goto 13, 3) := by decide +kernel
theorem dM_is_276 : decode prog_9_method_51_code 276 = .ok (.aload_n 0, 1) := by decide +kernel
theorem dM_is_277 : decode prog_9_method_51_code 277 = .ok (.getfield 137, 3) := by decide +kernel
theorem dM_is_280 : decode prog_9_method_51_code 280 = .ok (.iload_n 2, 1) := by decide +kernel
theorem dM_is_281 : decode prog_9_method_51_code 281 = .ok (.iaload, 1) := by decide +kernel
theorem dM_is_282 : decode prog_9_method_51_code 282 = .ok (.iload_n 1, 1) := by decide +kernel
theorem dM_is_283 : decode prog_9_method_51_code 283 = .ok (.ishr, 1) := by decide +kernel
theorem dM_is_284 : decode prog_9_method_51_code 284 = .ok (.iconst 1, 1) := by decide +kernel
theorem dM_is_285 : decode prog_9_method_51_code 285 = .ok (.iand, 1) := by decide +kernel
theorem dM_is_286 : decode prog_9_method_51_code 286 = .ok (.ireturn, 1) := by decide +kernel
theorem dM_under_0 : decode prog_9_method_52_code 0 = .ok (.aload_n 0, 1) := by decide +kernel
theorem dM_under_1 : decode prog_9_method_52_code 1 = .ok (.iconst 0, 1) := by decide +kernel
theorem dM_under_2 : decode prog_9_method_52_code 2 = .ok (.putfield 176, 3) := by decide +kernel
theorem dM_under_5 : decode prog_9_method_52_code 5 = .ok (.aload_n 0, 1) := by decide +kernel
theorem dM_under_6 : decode prog_9_method_52_code 6 = .ok (.iload_n 1, 1) := by decide +kernel
theorem dM_under_7 : decode prog_9_method_52_code 7 = .ok (.invokevirtual 193, 3) := by decide +kernel
theorem dM_under_10 : decode prog_9_method_52_code 10 = .ok (.ifCond .eq 11, 3) := by decide +kernel
theorem dM_under_13 : decode prog_9_method_52_code 13 = .ok (.aload_n 0, 1) := by decide +kernel
theorem dM_under_14 : decode prog_9_method_52_code 14 = .ok (.iload_n 2, 1) := by decide +kernel
theorem dM_under_15 : decode prog_9_method_52_code 15 = .ok (.invokevirtual 193, 3) := by decide +kernel
theorem dM_under_18 : decode prog_9_method_52_code 18 = .ok (.ifCond .ne 7, 3) := by decide +kernel
theorem dM_under_21 : decode prog_9_method_52_code 21 = .ok (.iconst (-1), 1) := by decide +kernel
theorem dM_under_22 : decode prog_9_method_52_code 22 = .ok (.goto 17, 3) := by decide +kernel
theorem dM_under_25 : decode prog_9_method_52_code 25 = .ok (.aload_n 0, 1) := by decide +kernel
theorem dM_under_26 : decode prog_9_method_52_code 26 = .ok (.iload_n 1, 1) := by decide +kernel
theorem dM_under_27 : decode prog_9_method_52_code 27 = .ok (.iload_n 2, 1) := by decide +kernel
theorem dM_under_28 : decode prog_9_method_52_code 28 = .ok (.invokevirtual 205, 3) := by decide +kernel
theorem dM_under_31 : decode prog_9_method_52_code 31 = .ok (.ifCond .eq 7, 3) := by decide +kernel
theorem dM_under_34 : decode prog_9_method_52_code 34 = .ok (.iconst 1, 1) := by decide +kernel
theorem dM_under_35 : decode prog_9_method_52_code 35 = .ok (.goto 4, 3) := by decide +kernel
theorem dM_under_38 : decode prog_9_method_52_code 38 = .ok (.iconst 0, 1) := by decide +kernel
theorem dM_under_39 : decode prog_9_method_52_code 39 = .ok (.ireturn, 1) := by decide +kernel
theorem dM_types_0 : decode prog_9_method_53_code 0 = .ok (.aload_n 0, 1) := by decide +kernel
theorem dM_types_1 : decode prog_9_method_53_code 1 = .ok (.iconst 0, 1) := by decide +kernel
theorem dM_types_2 : decode prog_9_method_53_code 2 = .ok (.putfield 176, 3) := by decide +kernel
theorem dM_types_5 : decode prog_9_method_53_code 5 = .ok (.aload_n 0, 1) := by decide +kernel
theorem dM_types_6 : decode prog_9_method_53_code 6 = .ok (.getfield 183, 3) := by decide +kernel
theorem dM_types_9 : decode prog_9_method_53_code 9 = .ok (.ireturn, 1) := by decide +kernel
theorem dM_classes_0 : decode prog_9_method_54_code 0 = .ok (.aload_n 0, 1) := by decide +kernel
theorem dM_classes_1 : decode prog_9_method_54_code 1 = .ok (.iconst 0, 1) := by decide +kernel
theorem dM_classes_2 : decode prog_9_method_54_code 2 = .ok (.putfield 176, 3) := by decide +kernel
theorem dM_classes_5 : decode prog_9_method_54_code 5 = .ok (.aload_n 0, 1) := by decide +kernel
theorem dM_classes_6 : decode prog_9_method_54_code 6 = .ok (.getfield 190, 3) := by decide +kernel
theorem dM_classes_9 : decode prog_9_method_54_code 9 = .ok (.ireturn, 1) := by decide +kernel
theorem dM_expressions_0 : decode prog_9_method_55_code 0 = .ok (.aload_n 0, 1) := by decide +kernel
theorem dM_expressions_1 : decode prog_9_method_55_code 1 = .ok (.iconst 0, 1) := by decide +kernel
theorem dM_expressions_2 : decode prog_9_method_55_code 2 = .ok (.putfield 176, 3) := by decide +kernel
theorem dM_expressions_5 : decode prog_9_method_55_code 5 = .ok (.aload_n 0, 1) := by decide +kernel
theorem dM_expressions_6 : decode prog_9_method_55_code 6 = .ok (.getfield 214, 3) := by decide +kernel
theorem dM_expressions_9 : decode prog_9_method_55_code 9 = .ok (.ireturn, 1) := by decide +kernel
theorem dJ_bitCount_0 : decode prog_11_method_49_code 0 = .ok (.iload_n 0, 1) := by decide +kernel
theorem dJ_bitCount_1 : decode prog_11_method_49_code 1 = .ok (.iload_n 0, 1) := by decide +kernel
theorem dJ_bitCount_2 : decode prog_11_method_49_code 2 = .ok (.iconst 1, 1) := by decide +kernel
theorem dJ_bitCount_3 : decode prog_11_method_49_code 3 = .ok (.iushr, 1) := by decide +kernel
theorem dJ_bitCount_4 : decode prog_11_method_49_code 4 = .ok (.ldc_w 265, 3) := by decide +kernel
theorem dJ_bitCount_7 : decode prog_11_method_49_code 7 = .ok (.iand, 1) := by decide +kernel
theorem dJ_bitCount_8 : decode prog_11_method_49_code 8 = .ok (.isub, 1) := by decide +kernel
theorem dJ_bitCount_9 : decode prog_11_method_49_code 9 = .ok (.istore_n 0, 1) := by decide +kernel
theorem dJ_bitCount_10 : decode prog_11_method_49_code 10 = .ok (.iload_n 0, 1) := by decide +kernel
theorem dJ_bitCount_11 : decode prog_11_method_49_code 11 = .ok (.ldc_w 266, 3) := by decide +kernel
theorem dJ_bitCount_14 : decode prog_11_method_49_code 14 = .ok (.iand, 1) := by decide +kernel
theorem dJ_bitCount_15 : decode prog_11_method_49_code 15 = .ok (.iload_n 0, 1) := by decide +kernel
theorem dJ_bitCount_16 : decode prog_11_method_49_code 16 = .ok (.iconst 2, 1) := by decide +kernel
theorem dJ_bitCount_17 : decode prog_11_method_49_code 17 = .ok (.iushr, 1) := by decide +kernel
theorem dJ_bitCount_18 : decode prog_11_method_49_code 18 = .ok (.ldc_w 266, 3) := by decide +kernel
theorem dJ_bitCount_21 : decode prog_11_method_49_code 21 = .ok (.iand, 1) := by decide +kernel
theorem dJ_bitCount_22 : decode prog_11_method_49_code 22 = .ok (.iadd, 1) := by decide +kernel
theorem dJ_bitCount_23 : decode prog_11_method_49_code 23 = .ok (.istore_n 0, 1) := by decide +kernel
theorem dJ_bitCount_24 : decode prog_11_method_49_code 24 = .ok (.iload_n 0, 1) := by decide +kernel
theorem dJ_bitCount_25 : decode prog_11_method_49_code 25 = .ok (.iload_n 0, 1) := by decide +kernel
theorem dJ_bitCount_26 : decode prog_11_method_49_code 26 = .ok (.iconst 4, 1) := by decide +kernel
theorem dJ_bitCount_27 : decode prog_11_method_49_code 27 = .ok (.iushr, 1) := by decide +kernel
theorem dJ_bitCount_28 : decode prog_11_method_49_code 28 = .ok (.iadd, 1) := by decide +kernel
theorem dJ_bitCount_29 : decode prog_11_method_49_code 29 = .ok (.ldc_w 267, 3) := by decide +kernel
theorem dJ_bitCount_32 : decode prog_11_method_49_code 32 = .ok (.iand, 1) := by decide +kernel
theorem dJ_bitCount_33 : decode prog_11_method_49_code 33 = .ok (.istore_n 0, 1) := by decide +kernel
theorem dJ_bitCount_34 : decode prog_11_method_49_code 34 = .ok (.iload_n 0, 1) := by decide +kernel
theorem dJ_bitCount_35 : decode prog_11_method_49_code 35 = .ok (.iload_n 0, 1) := by decide +kernel
theorem dJ_bitCount_36 : decode prog_11_method_49_code 36 = .ok (.bipush 8, 2) := by decide +kernel
theorem dJ_bitCount_38 : decode prog_11_method_49_code 38 = .ok (.iushr, 1) := by decide +kernel
theorem dJ_bitCount_39 : decode prog_11_method_49_code 39 = .ok (.iadd, 1) := by decide +kernel
theorem dJ_bitCount_40 : decode prog_11_method_49_code 40 = .ok (.istore_n 0, 1) := by decide +kernel
theorem dJ_bitCount_41 : decode prog_11_method_49_code 41 = .ok (.iload_n 0, 1) := by decide +kernel
theorem dJ_bitCount_42 : decode prog_11_method_49_code 42 = .ok (.iload_n 0, 1) := by decide +kernel
theorem dJ_bitCount_43 : decode prog_11_method_49_code 43 = .ok (.bipush 16, 2) := by decide +kernel
theorem dJ_bitCount_45 : decode prog_11_method_49_code 45 = .ok (.iushr, 1) := by decide +kernel
theorem dJ_bitCount_46 : decode prog_11_method_49_code 46 = .ok (.iadd, 1) := by decide +kernel
theorem dJ_bitCount_47 : decode prog_11_method_49_code 47 = .ok (.istore_n 0, 1) := by decide +kernel
theorem dJ_bitCount_48 : decode prog_11_method_49_code 48 = .ok (.iload_n 0, 1) := by decide +kernel
theorem dJ_bitCount_49 : decode prog_11_method_49_code 49 = .ok (.bipush 63, 2) := by decide +kernel
theorem dJ_bitCount_51 : decode prog_11_method_49_code 51 = .ok (.iand, 1) := by decide +kernel
theorem dJ_bitCount_52 : decode prog_11_method_49_code 52 = .ok (.ireturn, 1) := by decide +kernel
theorem dJ_fill_0 : decode prog_14_method_103_code 0 = .ok (.iconst 0, 1) := by decide +kernel
theorem dJ_fill_1 : decode prog_14_method_103_code 1 = .ok (.istore_n 2, 1) := by decide +kernel
theorem dJ_fill_2 : decode prog_14_method_103_code 2 = .ok (.aload_n 0, 1) := by decide +kernel
theorem dJ_fill_3 : decode prog_14_method_103_code 3 = .ok (.arraylength, 1) := by decide +kernel
theorem dJ_fill_4 : decode prog_14_method_103_code 4 = .ok (.istore_n 3, 1) := by decide +kernel
theorem dJ_fill_5 : decode prog_14_method_103_code 5 = .ok (.iload_n 2, 1) := by decide +kernel
theorem dJ_fill_6 : decode prog_14_method_103_code 6 = .ok (.iload_n 3, 1) := by decide +kernel
theorem dJ_fill_7 : decode prog_14_method_103_code 7 = .ok (.if_icmp .ge 13, 3) := by decide +kernel
theorem dJ_fill_10 : decode prog_14_method_103_code 10 = .ok (.aload_n 0, 1) := by decide +kernel
theorem dJ_fill_11 : decode prog_14_method_103_code 11 = .ok (.iload_n 2, 1) := by decide +kernel
theorem dJ_fill_12 : decode prog_14_method_103_code 12 = .ok (.iload_n 1, 1) := by decide +kernel
theorem dJ_fill_13 : decode prog_14_method_103_code 13 = .ok (.iastore, 1) := by decide +kernel
theorem dJ_fill_14 : decode prog_14_method_103_code 14 = .ok (.iinc 2 1, 3) := by decide +kernel
theorem dJ_fill_17 : decode prog_14_method_103_code 17 = .ok (.goto (-12), 3) := by decide +kernel
theorem dJ_fill_20 : decode prog_14_method_103_code 20 = .ok (.return_, 1) := by decide +kernel
