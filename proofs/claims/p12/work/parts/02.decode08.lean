theorem dM_unify_0 : decode prog_9_method_26_code 0 = .ok (.iconst 2, 1) := by decide +kernel
theorem dM_unify_1 : decode prog_9_method_26_code 1 = .ok (.istore_n 3, 1) := by decide +kernel
theorem dM_unify_2 : decode prog_9_method_26_code 2 = .ok (.aload_n 0, 1) := by decide +kernel
theorem dM_unify_3 : decode prog_9_method_26_code 3 = .ok (.getfield 131, 3) := by decide +kernel
theorem dM_unify_6 : decode prog_9_method_26_code 6 = .ok (.iconst 0, 1) := by decide +kernel
theorem dM_unify_7 : decode prog_9_method_26_code 7 = .ok (.iload_n 1, 1) := by decide +kernel
theorem dM_unify_8 : decode prog_9_method_26_code 8 = .ok (.iastore, 1) := by decide +kernel
theorem dM_unify_9 : decode prog_9_method_26_code 9 = .ok (.aload_n 0, 1) := by decide +kernel
theorem dM_unify_10 : decode prog_9_method_26_code 10 = .ok (.getfield 131, 3) := by decide +kernel
theorem dM_unify_13 : decode prog_9_method_26_code 13 = .ok (.iconst 1, 1) := by decide +kernel
theorem dM_unify_14 : decode prog_9_method_26_code 14 = .ok (.iload_n 2, 1) := by decide +kernel
theorem dM_unify_15 : decode prog_9_method_26_code 15 = .ok (.iastore, 1) := by decide +kernel
theorem dM_unify_16 : decode prog_9_method_26_code 16 = .ok (.iload_n 3, 1) := by decide +kernel
theorem dM_unify_17 : decode prog_9_method_26_code 17 = .ok (.ifCond .le 243, 3) := by decide +kernel
theorem dM_unify_20 : decode prog_9_method_26_code 20 = .ok (.aload_n 0, 1) := by decide +kernel
theorem dM_unify_21 : decode prog_9_method_26_code 21 = .ok (.getfield 237, 3) := by decide +kernel
theorem dM_unify_24 : decode prog_9_method_26_code 24 = .ok (.ifCond .ne 236, 3) := by decide +kernel
theorem dM_unify_27 : decode prog_9_method_26_code 27 = .ok (.iload_n 3, 1) := by decide +kernel
theorem dM_unify_28 : decode prog_9_method_26_code 28 = .ok (.iconst 2, 1) := by decide +kernel
theorem dM_unify_29 : decode prog_9_method_26_code 29 = .ok (.isub, 1) := by decide +kernel
theorem dM_unify_30 : decode prog_9_method_26_code 30 = .ok (.istore_n 3, 1) := by decide +kernel
theorem dM_unify_31 : decode prog_9_method_26_code 31 = .ok (.aload_n 0, 1) := by decide +kernel
theorem dM_unify_32 : decode prog_9_method_26_code 32 = .ok (.aload_n 0, 1) := by decide +kernel
theorem dM_unify_33 : decode prog_9_method_26_code 33 = .ok (.getfield 131, 3) := by decide +kernel
theorem dM_unify_36 : decode prog_9_method_26_code 36 = .ok (.iload_n 3, 1) := by decide +kernel
theorem dM_unify_37 : decode prog_9_method_26_code 37 = .ok (.iaload, 1) := by decide +kernel
theorem dM_unify_38 : decode prog_9_method_26_code 38 = .ok (.invokevirtual 241, 3) := by decide +kernel
theorem dM_unify_41 : decode prog_9_method_26_code 41 = .ok (.istore 4, 2) := by decide +kernel
theorem dM_unify_43 : decode prog_9_method_26_code 43 = .ok (.aload_n 0, 1) := by decide +kernel
theorem dM_unify_44 : decode prog_9_method_26_code 44 = .ok (.aload_n 0, 1) := by decide +kernel
theorem dM_unify_45 : decode prog_9_method_26_code 45 = .ok (.getfield 131, 3) := by decide +kernel
theorem dM_unify_48 : decode prog_9_method_26_code 48 = .ok (.iload_n 3, 1) := by decide +kernel
theorem dM_unify_49 : decode prog_9_method_26_code 49 = .ok (.iconst 1, 1) := by decide +kernel
theorem dM_unify_50 : decode prog_9_method_26_code 50 = .ok (.iadd, 1) := by decide +kernel
theorem dM_unify_51 : decode prog_9_method_26_code 51 = .ok (.iaload, 1) := by decide +kernel
theorem dM_unify_52 : decode prog_9_method_26_code 52 = .ok (.invokevirtual 241, 3) := by decide +kernel
theorem dM_unify_55 : decode prog_9_method_26_code 55 = .ok (.istore 5, 2) := by decide +kernel
theorem dM_unify_57 : decode prog_9_method_26_code 57 = .ok (.iload 4, 2) := by decide +kernel
theorem dM_unify_59 : decode prog_9_method_26_code 59 = .ok (.iload 5, 2) := by decide +kernel
theorem dM_unify_61 : decode prog_9_method_26_code 61 = .ok (.if_icmp .eq 25, 3) := by decide +kernel
theorem dM_unify_64 : decode prog_9_method_26_code 64 = .ok (.aload_n 0, 1) := by decide +kernel
theorem dM_unify_65 : decode prog_9_method_26_code 65 = .ok (.getfield 106, 3) := by decide +kernel
theorem dM_unify_68 : decode prog_9_method_26_code 68 = .ok (.iload 4, 2) := by decide +kernel
theorem dM_unify_70 : decode prog_9_method_26_code 70 = .ok (.iaload, 1) := by decide +kernel
theorem dM_unify_71 : decode prog_9_method_26_code 71 = .ok (.ifCond .ge 15, 3) := by decide +kernel
theorem dM_unify_74 : decode prog_9_method_26_code 74 = .ok (.aload_n 0, 1) := by decide +kernel
theorem dM_unify_75 : decode prog_9_method_26_code 75 = .ok (.getfield 103, 3) := by decide +kernel
theorem dM_unify_78 : decode prog_9_method_26_code 78 = .ok (.iload 4, 2) := by decide +kernel
theorem dM_unify_80 : decode prog_9_method_26_code 80 = .ok (.iload 5, 2) := by decide +kernel
theorem dM_unify_82 : decode prog_9_method_26_code 82 = .ok (.iastore, 1) := by decide +kernel
theorem dM_unify_83 : decode prog_9_method_26_code 83 = .ok (.goto 174, 3) := by decide +kernel
theorem dM_unify_86 : decode prog_9_method_26_code 86 = .ok (.iload 4, 2) := by decide +kernel
theorem dM_unify_88 : decode prog_9_method_26_code 88 = .ok (.iload 5, 2) := by decide +kernel
theorem dM_unify_90 : decode prog_9_method_26_code 90 = .ok (.if_icmp .eq 25, 3) := by decide +kernel
theorem dM_unify_93 : decode prog_9_method_26_code 93 = .ok (.aload_n 0, 1) := by decide +kernel
theorem dM_unify_94 : decode prog_9_method_26_code 94 = .ok (.getfield 106, 3) := by decide +kernel
theorem dM_unify_97 : decode prog_9_method_26_code 97 = .ok (.iload 5, 2) := by decide +kernel
theorem dM_unify_99 : decode prog_9_method_26_code 99 = .ok (.iaload, 1) := by decide +kernel
theorem dM_unify_100 : decode prog_9_method_26_code 100 = .ok (.ifCond .ge 15, 3) := by decide +kernel
theorem dM_unify_103 : decode prog_9_method_26_code 103 = .ok (.aload_n 0, 1) := by decide +kernel
theorem dM_unify_104 : decode prog_9_method_26_code 104 = .ok (.getfield 103, 3) := by decide +kernel
theorem dM_unify_107 : decode prog_9_method_26_code 107 = .ok (.iload 5, 2) := by decide +kernel
theorem dM_unify_109 : decode prog_9_method_26_code 109 = .ok (.iload 4, 2) := by decide +kernel
theorem dM_unify_111 : decode prog_9_method_26_code 111 = .ok (.iastore, 1) := by decide +kernel
theorem dM_unify_112 : decode prog_9_method_26_code 112 = .ok (.goto 145, 3) := by decide +kernel
theorem dM_unify_115 : decode prog_9_method_26_code 115 = .ok (.iload 4, 2) := by decide +kernel
theorem dM_unify_117 : decode prog_9_method_26_code 117 = .ok (.iload 5, 2) := by decide +kernel
theorem dM_unify_119 : decode prog_9_method_26_code 119 = .ok (.if_icmp .eq 138, 3) := by decide +kernel
theorem dM_unify_122 : decode prog_9_method_26_code 122 = .ok (.aload_n 0, 1) := by decide +kernel
theorem dM_unify_123 : decode prog_9_method_26_code 123 = .ok (.aload_n 0, 1) := by decide +kernel
theorem dM_unify_124 : decode prog_9_method_26_code 124 = .ok (.getfield 106, 3) := by decide +kernel
theorem dM_unify_127 : decode prog_9_method_26_code 127 = .ok (.iload 4, 2) := by decide +kernel
theorem dM_unify_129 : decode prog_9_method_26_code 129 = .ok (.iaload, 1) := by decide +kernel
theorem dM_unify_130 : decode prog_9_method_26_code 130 = .ok (.aload_n 0, 1) := by decide +kernel
theorem dM_unify_131 : decode prog_9_method_26_code 131 = .ok (.getfield 106, 3) := by decide +kernel
theorem dM_unify_134 : decode prog_9_method_26_code 134 = .ok (.iload 5, 2) := by decide +kernel
theorem dM_unify_136 : decode prog_9_method_26_code 136 = .ok (.iaload, 1) := by decide +kernel
theorem dM_unify_137 : decode prog_9_method_26_code 137 = .ok (.if_icmp .eq 7, 3) := by decide +kernel
theorem dM_unify_140 : decode prog_9_method_26_code 140 = .ok (.iconst 1, 1) := by decide +kernel
theorem dM_unify_141 : decode prog_9_method_26_code 141 = .ok (.goto 4, 3) := by decide +kernel
theorem dM_unify_144 : decode prog_9_method_26_code 144 = .ok (.iconst 0, 1) := by decide +kernel
theorem dM_unify_145 : decode prog_9_method_26_code 145 = .ok (.putfield 237, 3) := by decide +kernel
theorem dM_unify_148 : decode prog_9_method_26_code 148 = .ok (.aload_n 0, 1) := by decide +kernel
theorem dM_unify_149 : decode prog_9_method_26_code 149 = .ok (.getfield 103, 3) := by decide +kernel
theorem dM_unify_152 : decode prog_9_method_26_code 152 = .ok (.iload 4, 2) := by decide +kernel
theorem dM_unify_154 : decode prog_9_method_26_code 154 = .ok (.iload 5, 2) := by decide +kernel
theorem dM_unify_156 : decode prog_9_method_26_code 156 = .ok (.iastore, 1) := by decide +kernel
theorem dM_unify_157 : decode prog_9_method_26_code 157 = .ok (.aload_n 0, 1) := by decide +kernel
theorem dM_unify_158 : decode prog_9_method_26_code 158 = .ok (.getfield 237, 3) := by decide +kernel
theorem dM_unify_161 : decode prog_9_method_26_code 161 = .ok (.ifCond .eq 7, 3) := by decide +kernel
theorem dM_unify_164 : decode prog_9_method_26_code 164 = .ok (.iconst 0, 1) := by decide +kernel
theorem dM_unify_165 : decode prog_9_method_26_code 165 = .ok (.goto 15, 3) := by decide +kernel
theorem dM_unify_168 : decode prog_9_method_26_code 168 = .ok (.aload_n 0, 1) := by decide +kernel
theorem dM_unify_169 : decode prog_9_method_26_code 169 = .ok (.getfield 13, 3) := by decide +kernel
theorem dM_unify_172 : decode prog_9_method_26_code 172 = .ok (.aload_n 0, 1) := by decide +kernel
theorem dM_unify_173 : decode prog_9_method_26_code 173 = .ok (.getfield 106, 3) := by decide +kernel
theorem dM_unify_176 : decode prog_9_method_26_code 176 = .ok (.iload 4, 2) := by decide +kernel
theorem dM_unify_178 : decode prog_9_method_26_code 178 = .ok (.iaload, 1) := by decide +kernel
theorem dM_unify_179 : decode prog_9_method_26_code 179 = .ok (.iaload, 1) := by decide +kernel
theorem dM_unify_180 : decode prog_9_method_26_code 180 = .ok (.istore 6, 2) := by decide +kernel
theorem dM_unify_182 : decode prog_9_method_26_code 182 = .ok (.iload 6, 2) := by decide +kernel
theorem dM_unify_184 : decode prog_9_method_26_code 184 = .ok (.ifCond .le 35, 3) := by decide +kernel
theorem dM_unify_187 : decode prog_9_method_26_code 187 = .ok (.aload_n 0, 1) := by decide +kernel
theorem dM_unify_188 : decode prog_9_method_26_code 188 = .ok (.getfield 131, 3) := by decide +kernel
theorem dM_unify_191 : decode prog_9_method_26_code 191 = .ok (.iload_n 3, 1) := by decide +kernel
theorem dM_unify_192 : decode prog_9_method_26_code 192 = .ok (.aload_n 0, 1) := by decide +kernel
theorem dM_unify_193 : decode prog_9_method_26_code 193 = .ok (.getfield 109, 3) := by decide +kernel
theorem dM_unify_196 : decode prog_9_method_26_code 196 = .ok (.iload 4, 2) := by decide +kernel
theorem dM_unify_198 : decode prog_9_method_26_code 198 = .ok (.iaload, 1) := by decide +kernel
theorem dM_unify_199 : decode prog_9_method_26_code 199 = .ok (.iastore, 1) := by decide +kernel
theorem dM_unify_200 : decode prog_9_method_26_code 200 = .ok (.aload_n 0, 1) := by decide +kernel
theorem dM_unify_201 : decode prog_9_method_26_code 201 = .ok (.getfield 131, 3) := by decide +kernel
theorem dM_unify_204 : decode prog_9_method_26_code 204 = .ok (.iload_n 3, 1) := by decide +kernel
theorem dM_unify_205 : decode prog_9_method_26_code 205 = .ok (.iconst 1, 1) := by decide +kernel
theorem dM_unify_206 : decode prog_9_method_26_code 206 = .ok (.iadd, 1) := by decide +kernel
theorem dM_unify_207 : decode prog_9_method_26_code 207 = .ok (.aload_n 0, 1) := by decide +kernel
theorem dM_unify_208 : decode prog_9_method_26_code 208 = .ok (.getfield 109, 3) := by decide +kernel
theorem dM_unify_211 : decode prog_9_method_26_code 211 = .ok (.iload 5, 2) := by decide +kernel
theorem dM_unify_213 : decode prog_9_method_26_code 213 = .ok (.iaload, 1) := by decide +kernel
theorem dM_unify_214 : decode prog_9_method_26_code 214 = .ok (.iastore, 1) := by decide +kernel
theorem dM_unify_215 : decode prog_9_method_26_code 215 = .ok (.iload_n 3, 1) := by decide +kernel
theorem dM_unify_216 : decode prog_9_method_26_code 216 = .ok (.iconst 2, 1) := by decide +kernel
theorem dM_unify_217 : decode prog_9_method_26_code 217 = .ok (.iadd, 1) := by decide +kernel
theorem dM_unify_218 : decode prog_9_method_26_code 218 = .ok (.istore_n 3, 1) := by decide +kernel
theorem dM_unify_219 : decode prog_9_method_26_code 219 = .ok (.iload 6, 2) := by decide +kernel
theorem dM_unify_221 : decode prog_9_method_26_code 221 = .ok (.iconst 1, 1) := by decide +kernel
theorem dM_unify_222 : decode prog_9_method_26_code 222 = .ok (.if_icmp .le 35, 3) := by decide +kernel
theorem dM_unify_225 : decode prog_9_method_26_code 225 = .ok (.aload_n 0, 1) := by decide +kernel
theorem dM_unify_226 : decode prog_9_method_26_code 226 = .ok (.getfield 131, 3) := by decide +kernel
theorem dM_unify_229 : decode prog_9_method_26_code 229 = .ok (.iload_n 3, 1) := by decide +kernel
theorem dM_unify_230 : decode prog_9_method_26_code 230 = .ok (.aload_n 0, 1) := by decide +kernel
theorem dM_unify_231 : decode prog_9_method_26_code 231 = .ok (.getfield 112, 3) := by decide +kernel
theorem dM_unify_234 : decode prog_9_method_26_code 234 = .ok (.iload 4, 2) := by decide +kernel
theorem dM_unify_236 : decode prog_9_method_26_code 236 = .ok (.iaload, 1) := by decide +kernel
theorem dM_unify_237 : decode prog_9_method_26_code 237 = .ok (.iastore, 1) := by decide +kernel
theorem dM_unify_238 : decode prog_9_method_26_code 238 = .ok (.aload_n 0, 1) := by decide +kernel
theorem dM_unify_239 : decode prog_9_method_26_code 239 = .ok (.getfield 131, 3) := by decide +kernel
theorem dM_unify_242 : decode prog_9_method_26_code 242 = .ok (.iload_n 3, 1) := by decide +kernel
theorem dM_unify_243 : decode prog_9_method_26_code 243 = .ok (.iconst 1, 1) := by decide +kernel
theorem dM_unify_244 : decode prog_9_method_26_code 244 = .ok (.iadd, 1) := by decide +kernel
theorem dM_unify_245 : decode prog_9_method_26_code 245 = .ok (.aload_n 0, 1) := by decide +kernel
theorem dM_unify_246 : decode prog_9_method_26_code 246 = .ok (.getfield 112, 3) := by decide +kernel
theorem dM_unify_249 : decode prog_9_method_26_code 249 = .ok (.iload 5, 2) := by decide +kernel
theorem dM_unify_251 : decode prog_9_method_26_code 251 = .ok (.iaload, 1) := by decide +kernel
theorem dM_unify_252 : decode prog_9_method_26_code 252 = .ok (.iastore, 1) := by decide +kernel
theorem dM_unify_253 : decode prog_9_method_26_code 253 = .ok (.iload_n 3, 1) := by decide +kernel
theorem dM_unify_254 : decode prog_9_method_26_code 254 = .ok (.iconst 2, 1) := by decide +kernel
theorem dM_unify_255 : decode prog_9_method_26_code 255 = .ok (.iadd, 1) := by decide +kernel
theorem dM_unify_256 : decode prog_9_method_26_code 256 = .ok (.istore_n 3, 1) := by decide +kernel
theorem dM_unify_257 : decode prog_9_method_26_code 257 = .ok (.goto (-241), 3) := by decide +kernel
theorem dM_unify_260 : decode prog_9_method_26_code 260 = .ok (.return_, 1) := by decide +kernel
theorem dM_isTold_0 : decode prog_9_method_27_code 0 = .ok (.iload_n 1, 1) := by decide +kernel
theorem dM_isTold_1 : decode prog_9_method_27_code 1 = .ok (.ifCond .lt 16, 3) := by decide +kernel
theorem dM_isTold_4 : decode prog_9_method_27_code 4 = .ok (.aload_n 0, 1) := by decide +kernel
theorem dM_isTold_5 : decode prog_9_method_27_code 5 = .ok (.getfield 121, 3) := by decide +kernel
theorem dM_isTold_8 : decode prog_9_method_27_code 8 = .ok (.aload_n 0, 1) := by decide +kernel
theorem dM_isTold_9 : decode prog_9_method_27_code 9 = .ok (.iload_n 1, 1) := by decide +kernel
theorem dM_isTold_10 : decode prog_9_method_27_code 10 = .ok (.invokevirtual 241, 3) := by decide +kernel
theorem dM_isTold_13 : decode prog_9_method_27_code 13 = .ok (.baload, 1) := by decide +kernel
theorem dM_isTold_14 : decode prog_9_method_27_code 14 = .ok (.ifCond .eq 7, 3) := by decide +kernel
theorem dM_isTold_17 : decode prog_9_method_27_code 17 = .ok (.iconst 1, 1) := by decide +kernel
theorem dM_isTold_18 : decode prog_9_method_27_code 18 = .ok (.goto 4, 3) := by decide +kernel
theorem dM_isTold_21 : decode prog_9_method_27_code 21 = .ok (.iconst 0, 1) := by decide +kernel
theorem dM_isTold_22 : decode prog_9_method_27_code 22 = .ok (.ireturn, 1) := by decide +kernel
theorem dM_needNoRing_0 : decode prog_9_method_28_code 0 = .ok (.iconst 0, 1) := by decide +kernel
theorem dM_needNoRing_1 : decode prog_9_method_28_code 1 = .ok (.istore_n 1, 1) := by decide +kernel
theorem dM_needNoRing_2 : decode prog_9_method_28_code 2 = .ok (.iload_n 1, 1) := by decide +kernel
theorem dM_needNoRing_3 : decode prog_9_method_28_code 3 = .ok (.aload_n 0, 1) := by decide +kernel
theorem dM_needNoRing_4 : decode prog_9_method_28_code 4 = .ok (.getfield 231, 3) := by decide +kernel
theorem dM_needNoRing_7 : decode prog_9_method_28_code 7 = .ok (.if_icmp .ge 16, 3) := by decide +kernel
theorem dM_needNoRing_10 : decode prog_9_method_28_code 10 = .ok (.aload_n 0, 1) := by decide +kernel
theorem dM_needNoRing_11 : decode prog_9_method_28_code 11 = .ok (.getfield 121, 3) := by decide +kernel
theorem dM_needNoRing_14 : decode prog_9_method_28_code 14 = .ok (.iload_n 1, 1) := by decide +kernel
theorem dM_needNoRing_15 : decode prog_9_method_28_code 15 = .ok (.iconst 0, 1) := by decide +kernel
theorem dM_needNoRing_16 : decode prog_9_method_28_code 16 = .ok (.bastore, 1) := by decide +kernel
theorem dM_needNoRing_17 : decode prog_9_method_28_code 17 = .ok (.iinc 1 1, 3) := by decide +kernel
theorem dM_needNoRing_20 : decode prog_9_method_28_code 20 = .ok (.goto (-18), 3) := by decide +kernel
theorem dM_needNoRing_23 : decode prog_9_method_28_code 23 = .ok (.iconst 1, 1) := by decide +kernel
theorem dM_needNoRing_24 : decode prog_9_method_28_code 24 = .ok (.istore_n 1, 1) := by decide +kernel
theorem dM_needNoRing_25 : decode prog_9_method_28_code 25 = .ok (.iconst 1, 1) := by decide +kernel
theorem dM_needNoRing_26 : decode prog_9_method_28_code 26 = .ok (.istore_n 2, 1) := by decide +kernel
theorem dM_needNoRing_27 : decode prog_9_method_28_code 27 = .ok (.iload_n 1, 1) := by decide +kernel
theorem dM_needNoRing_28 : decode prog_9_method_28_code 28 = .ok (.ifCond .eq 127, 3) := by decide +kernel
theorem dM_needNoRing_31 : decode prog_9_method_28_code 31 = .ok (.aload_n 0, 1) := by decide +kernel
theorem dM_needNoRing_32 : decode prog_9_method_28_code 32 = .ok (.getfield 237, 3) := by decide +kernel
theorem dM_needNoRing_35 : decode prog_9_method_28_code 35 = .ok (.ifCond .ne 120, 3) := by decide +kernel
theorem dM_needNoRing_38 : decode prog_9_method_28_code 38 = .ok (.iconst 0, 1) := by decide +kernel
theorem dM_needNoRing_39 : decode prog_9_method_28_code 39 = .ok (.istore_n 1, 1) := by decide +kernel
theorem dM_needNoRing_40 : decode prog_9_method_28_code 40 = .ok (.iconst 1, 1) := by decide +kernel
theorem dM_needNoRing_41 : decode prog_9_method_28_code 41 = .ok (.istore_n 2, 1) := by decide +kernel
theorem dM_needNoRing_42 : decode prog_9_method_28_code 42 = .ok (.iconst 0, 1) := by decide +kernel
theorem dM_needNoRing_43 : decode prog_9_method_28_code 43 = .ok (.istore_n 3, 1) := by decide +kernel
theorem dM_needNoRing_44 : decode prog_9_method_28_code 44 = .ok (.iload_n 3, 1) := by decide +kernel
theorem dM_needNoRing_45 : decode prog_9_method_28_code 45 = .ok (.aload_n 0, 1) := by decide +kernel
theorem dM_needNoRing_46 : decode prog_9_method_28_code 46 = .ok (.getfield 231, 3) := by decide +kernel
theorem dM_needNoRing_49 : decode prog_9_method_28_code 49 = .ok (.if_icmp .ge 103, 3) := by decide +kernel
theorem dM_needNoRing_52 : decode prog_9_method_28_code 52 = .ok (.aload_n 0, 1) := by decide +kernel
theorem dM_needNoRing_53 : decode prog_9_method_28_code 53 = .ok (.getfield 103, 3) := by decide +kernel
theorem dM_needNoRing_56 : decode prog_9_method_28_code 56 = .ok (.iload_n 3, 1) := by decide +kernel
theorem dM_needNoRing_57 : decode prog_9_method_28_code 57 = .ok (.iaload, 1) := by decide +kernel
theorem dM_needNoRing_58 : decode prog_9_method_28_code 58 = .ok (.iload_n 3, 1) := by decide +kernel
theorem dM_needNoRing_59 : decode prog_9_method_28_code 59 = .ok (.if_icmp .ne 87, 3) := by decide +kernel
theorem dM_needNoRing_62 : decode prog_9_method_28_code 62 = .ok (.aload_n 0, 1) := by decide +kernel
theorem dM_needNoRing_63 : decode prog_9_method_28_code 63 = .ok (.getfield 121, 3) := by decide +kernel
theorem dM_needNoRing_66 : decode prog_9_method_28_code 66 = .ok (.iload_n 3, 1) := by decide +kernel
theorem dM_needNoRing_67 : decode prog_9_method_28_code 67 = .ok (.baload, 1) := by decide +kernel
theorem dM_needNoRing_68 : decode prog_9_method_28_code 68 = .ok (.ifCond .ne 78, 3) := by decide +kernel
theorem dM_needNoRing_71 : decode prog_9_method_28_code 71 = .ok (.aload_n 0, 1) := by decide +kernel
theorem dM_needNoRing_72 : decode prog_9_method_28_code 72 = .ok (.getfield 121, 3) := by decide +kernel
theorem dM_needNoRing_75 : decode prog_9_method_28_code 75 = .ok (.iload_n 3, 1) := by decide +kernel
theorem dM_needNoRing_76 : decode prog_9_method_28_code 76 = .ok (.aload_n 0, 1) := by decide +kernel
theorem dM_needNoRing_77 : decode prog_9_method_28_code 77 = .ok (.aload_n 0, 1) := by decide +kernel
theorem dM_needNoRing_78 : decode prog_9_method_28_code 78 = .ok (.getfield 109, 3) := by decide +kernel
theorem dM_needNoRing_81 : decode prog_9_method_28_code 81 = .ok (.iload_n 3, 1) := by decide +kernel
theorem dM_needNoRing_82 : decode prog_9_method_28_code 82 = .ok (.iaload, 1) := by decide +kernel
theorem dM_needNoRing_83 : decode prog_9_method_28_code 83 = .ok (.invokevirtual 244, 3) := by decide +kernel
theorem dM_needNoRing_86 : decode prog_9_method_28_code 86 = .ok (.ifCond .eq 20, 3) := by decide +kernel
theorem dM_needNoRing_89 : decode prog_9_method_28_code 89 = .ok (.aload_n 0, 1) := by decide +kernel
theorem dM_needNoRing_90 : decode prog_9_method_28_code 90 = .ok (.aload_n 0, 1) := by decide +kernel
theorem dM_needNoRing_91 : decode prog_9_method_28_code 91 = .ok (.getfield 112, 3) := by decide +kernel
theorem dM_needNoRing_94 : decode prog_9_method_28_code 94 = .ok (.iload_n 3, 1) := by decide +kernel
theorem dM_needNoRing_95 : decode prog_9_method_28_code 95 = .ok (.iaload, 1) := by decide +kernel
theorem dM_needNoRing_96 : decode prog_9_method_28_code 96 = .ok (.invokevirtual 244, 3) := by decide +kernel
theorem dM_needNoRing_99 : decode prog_9_method_28_code 99 = .ok (.ifCond .eq 7, 3) := by decide +kernel
theorem dM_needNoRing_102 : decode prog_9_method_28_code 102 = .ok (.iconst 1, 1) := by decide +kernel
theorem dM_needNoRing_103 : decode prog_9_method_28_code 103 = .ok (.goto 4, 3) := by decide +kernel
theorem dM_needNoRing_106 : decode prog_9_method_28_code 106 = .ok (.iconst 0, 1) := by decide +kernel
theorem dM_needNoRing_107 : decode prog_9_method_28_code 107 = .ok (.bastore, 1) := by decide +kernel
theorem dM_needNoRing_108 : decode prog_9_method_28_code 108 = .ok (.iload_n 1, 1) := by decide +kernel
theorem dM_needNoRing_109 : decode prog_9_method_28_code 109 = .ok (.ifCond .ne 12, 3) := by decide +kernel
theorem dM_needNoRing_112 : decode prog_9_method_28_code 112 = .ok (.aload_n 0, 1) := by decide +kernel
theorem dM_needNoRing_113 : decode prog_9_method_28_code 113 = .ok (.getfield 121, 3) := by decide +kernel
theorem dM_needNoRing_116 : decode prog_9_method_28_code 116 = .ok (.iload_n 3, 1) := by decide +kernel
theorem dM_needNoRing_117 : decode prog_9_method_28_code 117 = .ok (.baload, 1) := by decide +kernel
theorem dM_needNoRing_118 : decode prog_9_method_28_code 118 = .ok (.ifCond .eq 7, 3) := by decide +kernel
theorem dM_needNoRing_121 : decode prog_9_method_28_code 121 = .ok (.iconst 1, 1) := by decide +kernel
theorem dM_needNoRing_122 : decode prog_9_method_28_code 122 = .ok (.goto 4, 3) := by decide +kernel
theorem dM_needNoRing_125 : decode prog_9_method_28_code 125 = .ok (.iconst 0, 1) := by decide +kernel
theorem dM_needNoRing_126 : decode prog_9_method_28_code 126 = .ok (.istore_n 1, 1) := by decide +kernel
theorem dM_needNoRing_127 : decode prog_9_method_28_code 127 = .ok (.iload_n 2, 1) := by decide +kernel
theorem dM_needNoRing_128 : decode prog_9_method_28_code 128 = .ok (.ifCond .eq 16, 3) := by decide +kernel
theorem dM_needNoRing_131 : decode prog_9_method_28_code 131 = .ok (.aload_n 0, 1) := by decide +kernel
theorem dM_needNoRing_132 : decode prog_9_method_28_code 132 = .ok (.getfield 121, 3) := by decide +kernel
theorem dM_needNoRing_135 : decode prog_9_method_28_code 135 = .ok (.iload_n 3, 1) := by decide +kernel
theorem dM_needNoRing_136 : decode prog_9_method_28_code 136 = .ok (.baload, 1) := by decide +kernel
theorem dM_needNoRing_137 : decode prog_9_method_28_code 137 = .ok (.ifCond .eq 7, 3) := by decide +kernel
theorem dM_needNoRing_140 : decode prog_9_method_28_code 140 = .ok (.iconst 1, 1) := by decide +kernel
theorem dM_needNoRing_141 : decode prog_9_method_28_code 141 = .ok (.goto 4, 3) := by decide +kernel
theorem dM_needNoRing_144 : decode prog_9_method_28_code 144 = .ok (.iconst 0, 1) := by decide +kernel
theorem dM_needNoRing_145 : decode prog_9_method_28_code 145 = .ok (.istore_n 2, 1) := by decide +kernel
theorem dM_needNoRing_146 : decode prog_9_method_28_code 146 = .ok (.iinc 3 1, 3) := by decide +kernel
theorem dM_needNoRing_149 : decode prog_9_method_28_code 149 = .ok (.goto (-105), 3) := by decide +kernel
theorem dM_needNoRing_152 : decode prog_9_method_28_code 152 = .ok (.goto (-125), 3) := by decide +kernel
theorem dM_needNoRing_155 : decode prog_9_method_28_code 155 = .ok (.aload_n 0, 1) := by decide +kernel
theorem dM_needNoRing_156 : decode prog_9_method_28_code 156 = .ok (.aload_n 0, 1) := by decide +kernel
theorem dM_needNoRing_157 : decode prog_9_method_28_code 157 = .ok (.getfield 237, 3) := by decide +kernel
theorem dM_needNoRing_160 : decode prog_9_method_28_code 160 = .ok (.ifCond .ne 7, 3) := by decide +kernel
theorem dM_needNoRing_163 : decode prog_9_method_28_code 163 = .ok (.iload_n 2, 1) := by decide +kernel
theorem dM_needNoRing_164 : decode prog_9_method_28_code 164 = .ok (.ifCond .ne 7, 3) := by decide +kernel
theorem dM_needNoRing_167 : decode prog_9_method_28_code 167 = .ok (.iconst 1, 1) := by decide +kernel
theorem dM_needNoRing_168 : decode prog_9_method_28_code 168 = .ok (.goto 4, 3) := by decide +kernel
theorem dM_needNoRing_171 : decode prog_9_method_28_code 171 = .ok (.iconst 0, 1) := by decide +kernel
theorem dM_needNoRing_172 : decode prog_9_method_28_code 172 = .ok (.putfield 237, 3) := by decide +kernel
theorem dM_needNoRing_175 : decode prog_9_method_28_code 175 = .ok (.return_, 1) := by decide +kernel
theorem dM_reach_0 : decode prog_9_method_29_code 0 = .ok (.iconst 1, 1) := by decide +kernel
theorem dM_reach_1 : decode prog_9_method_29_code 1 = .ok (.istore_n 2, 1) := by decide +kernel
theorem dM_reach_2 : decode prog_9_method_29_code 2 = .ok (.aload_n 0, 1) := by decide +kernel
theorem dM_reach_3 : decode prog_9_method_29_code 3 = .ok (.getfield 131, 3) := by decide +kernel
theorem dM_reach_6 : decode prog_9_method_29_code 6 = .ok (.iconst 0, 1) := by decide +kernel
theorem dM_reach_7 : decode prog_9_method_29_code 7 = .ok (.iload_n 1, 1) := by decide +kernel
theorem dM_reach_8 : decode prog_9_method_29_code 8 = .ok (.iastore, 1) := by decide +kernel
theorem dM_reach_9 : decode prog_9_method_29_code 9 = .ok (.iload_n 2, 1) := by decide +kernel
theorem dM_reach_10 : decode prog_9_method_29_code 10 = .ok (.ifCond .le 111, 3) := by decide +kernel
theorem dM_reach_13 : decode prog_9_method_29_code 13 = .ok (.iinc 2 (-1), 3) := by decide +kernel
theorem dM_reach_16 : decode prog_9_method_29_code 16 = .ok (.aload_n 0, 1) := by decide +kernel
theorem dM_reach_17 : decode prog_9_method_29_code 17 = .ok (.aload_n 0, 1) := by decide +kernel
theorem dM_reach_18 : decode prog_9_method_29_code 18 = .ok (.getfield 131, 3) := by decide +kernel
theorem dM_reach_21 : decode prog_9_method_29_code 21 = .ok (.iload_n 2, 1) := by decide +kernel
theorem dM_reach_22 : decode prog_9_method_29_code 22 = .ok (.iaload, 1) := by decide +kernel
theorem dM_reach_23 : decode prog_9_method_29_code 23 = .ok (.invokevirtual 241, 3) := by decide +kernel
theorem dM_reach_26 : decode prog_9_method_29_code 26 = .ok (.istore_n 3, 1) := by decide +kernel
theorem dM_reach_27 : decode prog_9_method_29_code 27 = .ok (.aload_n 0, 1) := by decide +kernel
theorem dM_reach_28 : decode prog_9_method_29_code 28 = .ok (.getfield 115, 3) := by decide +kernel
theorem dM_reach_31 : decode prog_9_method_29_code 31 = .ok (.iload_n 3, 1) := by decide +kernel
theorem dM_reach_32 : decode prog_9_method_29_code 32 = .ok (.iaload, 1) := by decide +kernel
theorem dM_reach_33 : decode prog_9_method_29_code 33 = .ok (.aload_n 0, 1) := by decide +kernel
theorem dM_reach_34 : decode prog_9_method_29_code 34 = .ok (.getfield 247, 3) := by decide +kernel
theorem dM_reach_37 : decode prog_9_method_29_code 37 = .ok (.if_icmp .eq 81, 3) := by decide +kernel
theorem dM_reach_40 : decode prog_9_method_29_code 40 = .ok (.aload_n 0, 1) := by decide +kernel
theorem dM_reach_41 : decode prog_9_method_29_code 41 = .ok (.getfield 115, 3) := by decide +kernel
theorem dM_reach_44 : decode prog_9_method_29_code 44 = .ok (.iload_n 3, 1) := by decide +kernel
theorem dM_reach_45 : decode prog_9_method_29_code 45 = .ok (.aload_n 0, 1) := by decide +kernel
theorem dM_reach_46 : decode prog_9_method_29_code 46 = .ok (.getfield 247, 3) := by decide +kernel
theorem dM_reach_49 : decode prog_9_method_29_code 49 = .ok (.iastore, 1) := by decide +kernel
theorem dM_reach_50 : decode prog_9_method_29_code 50 = .ok (.aload_n 0, 1) := by decide +kernel
theorem dM_reach_51 : decode prog_9_method_29_code 51 = .ok (.getfield 134, 3) := by decide +kernel
theorem dM_reach_54 : decode prog_9_method_29_code 54 = .ok (.aload_n 0, 1) := by decide +kernel
theorem dM_reach_55 : decode prog_9_method_29_code 55 = .ok (.getfield 250, 3) := by decide +kernel
theorem dM_reach_58 : decode prog_9_method_29_code 58 = .ok (.iload_n 3, 1) := by decide +kernel
theorem dM_reach_59 : decode prog_9_method_29_code 59 = .ok (.iastore, 1) := by decide +kernel
theorem dM_reach_60 : decode prog_9_method_29_code 60 = .ok (.aload_n 0, 1) := by decide +kernel
theorem dM_reach_61 : decode prog_9_method_29_code 61 = .ok (.dup, 1) := by decide +kernel
theorem dM_reach_62 : decode prog_9_method_29_code 62 = .ok (.getfield 250, 3) := by decide +kernel
theorem dM_reach_65 : decode prog_9_method_29_code 65 = .ok (.iconst 1, 1) := by decide +kernel
theorem dM_reach_66 : decode prog_9_method_29_code 66 = .ok (.iadd, 1) := by decide +kernel
theorem dM_reach_67 : decode prog_9_method_29_code 67 = .ok (.putfield 250, 3) := by decide +kernel
theorem dM_reach_70 : decode prog_9_method_29_code 70 = .ok (.aload_n 0, 1) := by decide +kernel
theorem dM_reach_71 : decode prog_9_method_29_code 71 = .ok (.getfield 109, 3) := by decide +kernel
theorem dM_reach_74 : decode prog_9_method_29_code 74 = .ok (.iload_n 3, 1) := by decide +kernel
theorem dM_reach_75 : decode prog_9_method_29_code 75 = .ok (.iaload, 1) := by decide +kernel
theorem dM_reach_76 : decode prog_9_method_29_code 76 = .ok (.ifCond .lt 18, 3) := by decide +kernel
theorem dM_reach_79 : decode prog_9_method_29_code 79 = .ok (.aload_n 0, 1) := by decide +kernel
theorem dM_reach_80 : decode prog_9_method_29_code 80 = .ok (.getfield 131, 3) := by decide +kernel
theorem dM_reach_83 : decode prog_9_method_29_code 83 = .ok (.iload_n 2, 1) := by decide +kernel
theorem dM_reach_84 : decode prog_9_method_29_code 84 = .ok (.aload_n 0, 1) := by decide +kernel
theorem dM_reach_85 : decode prog_9_method_29_code 85 = .ok (.getfield 109, 3) := by decide +kernel
theorem dM_reach_88 : decode prog_9_method_29_code 88 = .ok (.iload_n 3, 1) := by decide +kernel
theorem dM_reach_89 : decode prog_9_method_29_code 89 = .ok (.iaload, 1) := by decide +kernel
theorem dM_reach_90 : decode prog_9_method_29_code 90 = .ok (.iastore, 1) := by decide +kernel
theorem dM_reach_91 : decode prog_9_method_29_code 91 = .ok (.iinc 2 1, 3) := by decide +kernel
theorem dM_reach_94 : decode prog_9_method_29_code 94 = .ok (.aload_n 0, 1) := by decide +kernel
theorem dM_reach_95 : decode prog_9_method_29_code 95 = .ok (.getfield 112, 3) := by decide +kernel
theorem dM_reach_98 : decode prog_9_method_29_code 98 = .ok (.iload_n 3, 1) := by decide +kernel
theorem dM_reach_99 : decode prog_9_method_29_code 99 = .ok (.iaload, 1) := by decide +kernel
theorem dM_reach_100 : decode prog_9_method_29_code 100 = .ok (.ifCond .lt 18, 3) := by decide +kernel
theorem dM_reach_103 : decode prog_9_method_29_code 103 = .ok (.aload_n 0, 1) := by decide +kernel
theorem dM_reach_104 : decode prog_9_method_29_code 104 = .ok (.getfield 131, 3) := by decide +kernel
theorem dM_reach_107 : decode prog_9_method_29_code 107 = .ok (.iload_n 2, 1) := by decide +kernel
theorem dM_reach_108 : decode prog_9_method_29_code 108 = .ok (.aload_n 0, 1) := by decide +kernel
theorem dM_reach_109 : decode prog_9_method_29_code 109 = .ok (.getfield 112, 3) := by decide +kernel
theorem dM_reach_112 : decode prog_9_method_29_code 112 = .ok (.iload_n 3, 1) := by decide +kernel
theorem dM_reach_113 : decode prog_9_method_29_code 113 = .ok (.iaload, 1) := by decide +kernel
theorem dM_reach_114 : decode prog_9_method_29_code 114 = .ok (.iastore, 1) := by decide +kernel
theorem dM_reach_115 : decode prog_9_method_29_code 115 = .ok (.iinc 2 1, 3) := by decide +kernel
theorem dM_reach_118 : decode prog_9_method_29_code 118 = .ok (.goto (-109), 3) := by decide +kernel
theorem dM_reach_121 : decode prog_9_method_29_code 121 = .ok (.return_, 1) := by decide +kernel
theorem dM_copyStatic_0 : decode prog_9_method_30_code 0 = .ok (.aload_n 0, 1) := by decide +kernel
theorem dM_copyStatic_1 : decode prog_9_method_30_code 1 = .ok (.iload_n 1, 1) := by decide +kernel
theorem dM_copyStatic_2 : decode prog_9_method_30_code 2 = .ok (.invokevirtual 197, 3) := by decide +kernel
theorem dM_copyStatic_5 : decode prog_9_method_30_code 5 = .ok (.iconst 0, 1) := by decide +kernel
theorem dM_copyStatic_6 : decode prog_9_method_30_code 6 = .ok (.istore_n 2, 1) := by decide +kernel
theorem dM_copyStatic_7 : decode prog_9_method_30_code 7 = .ok (.iload_n 2, 1) := by decide +kernel
theorem dM_copyStatic_8 : decode prog_9_method_30_code 8 = .ok (.iload_n 1, 1) := by decide +kernel
theorem dM_copyStatic_9 : decode prog_9_method_30_code 9 = .ok (.if_icmp .gt 104, 3) := by decide +kernel
theorem dM_copyStatic_12 : decode prog_9_method_30_code 12 = .ok (.aload_n 0, 1) := by decide +kernel
theorem dM_copyStatic_13 : decode prog_9_method_30_code 13 = .ok (.getfield 140, 3) := by decide +kernel
theorem dM_copyStatic_16 : decode prog_9_method_30_code 16 = .ok (.iload_n 2, 1) := by decide +kernel
theorem dM_copyStatic_17 : decode prog_9_method_30_code 17 = .ok (.baload, 1) := by decide +kernel
theorem dM_copyStatic_18 : decode prog_9_method_30_code 18 = .ok (.ifCond .eq 89, 3) := by decide +kernel
theorem dM_copyStatic_21 : decode prog_9_method_30_code 21 = .ok (.aload_n 0, 1) := by decide +kernel
theorem dM_copyStatic_22 : decode prog_9_method_30_code 22 = .ok (.getfield 20, 3) := by decide +kernel
theorem dM_copyStatic_25 : decode prog_9_method_30_code 25 = .ok (.iload_n 2, 1) := by decide +kernel
theorem dM_copyStatic_26 : decode prog_9_method_30_code 26 = .ok (.iaload, 1) := by decide +kernel
theorem dM_copyStatic_27 : decode prog_9_method_30_code 27 = .ok (.ifCond .ge 7, 3) := by decide +kernel
theorem dM_copyStatic_30 : decode prog_9_method_30_code 30 = .ok (.iconst (-1), 1) := by decide +kernel
theorem dM_copyStatic_31 : decode prog_9_method_30_code 31 = .ok (.goto 14, 3) := by decide +kernel
theorem dM_copyStatic_34 : decode prog_9_method_30_code 34 = .ok (.aload_n 0, 1) := by decide +kernel
theorem dM_copyStatic_35 : decode prog_9_method_30_code 35 = .ok (.getfield 137, 3) := by decide +kernel
theorem dM_copyStatic_38 : decode prog_9_method_30_code 38 = .ok (.aload_n 0, 1) := by decide +kernel
theorem dM_copyStatic_39 : decode prog_9_method_30_code 39 = .ok (.getfield 20, 3) := by decide +kernel
theorem dM_copyStatic_42 : decode prog_9_method_30_code 42 = .ok (.iload_n 2, 1) := by decide +kernel
theorem dM_copyStatic_43 : decode prog_9_method_30_code 43 = .ok (.iaload, 1) := by decide +kernel
theorem dM_copyStatic_44 : decode prog_9_method_30_code 44 = .ok (.iaload, 1) := by decide +kernel
theorem dM_copyStatic_45 : decode prog_9_method_30_code 45 = .ok (.istore_n 3, 1) := by decide +kernel
theorem dM_copyStatic_46 : decode prog_9_method_30_code 46 = .ok (.aload_n 0, 1) := by decide +kernel
theorem dM_copyStatic_47 : decode prog_9_method_30_code 47 = .ok (.getfield 23, 3) := by decide +kernel
theorem dM_copyStatic_50 : decode prog_9_method_30_code 50 = .ok (.iload_n 2, 1) := by decide +kernel
theorem dM_copyStatic_51 : decode prog_9_method_30_code 51 = .ok (.iaload, 1) := by decide +kernel
theorem dM_copyStatic_52 : decode prog_9_method_30_code 52 = .ok (.ifCond .ge 7, 3) := by decide +kernel
theorem dM_copyStatic_55 : decode prog_9_method_30_code 55 = .ok (.iconst (-1), 1) := by decide +kernel
theorem dM_copyStatic_56 : decode prog_9_method_30_code 56 = .ok (.goto 14, 3) := by decide +kernel
theorem dM_copyStatic_59 : decode prog_9_method_30_code 59 = .ok (.aload_n 0, 1) := by decide +kernel
theorem dM_copyStatic_60 : decode prog_9_method_30_code 60 = .ok (.getfield 137, 3) := by decide +kernel
theorem dM_copyStatic_63 : decode prog_9_method_30_code 63 = .ok (.aload_n 0, 1) := by decide +kernel
theorem dM_copyStatic_64 : decode prog_9_method_30_code 64 = .ok (.getfield 23, 3) := by decide +kernel
theorem dM_copyStatic_67 : decode prog_9_method_30_code 67 = .ok (.iload_n 2, 1) := by decide +kernel
theorem dM_copyStatic_68 : decode prog_9_method_30_code 68 = .ok (.iaload, 1) := by decide +kernel
theorem dM_copyStatic_69 : decode prog_9_method_30_code 69 = .ok (.iaload, 1) := by decide +kernel
theorem dM_copyStatic_70 : decode prog_9_method_30_code 70 = .ok (.istore 4, 2) := by decide +kernel
theorem dM_copyStatic_72 : decode prog_9_method_30_code 72 = .ok (.aload_n 0, 1) := by decide +kernel
theorem dM_copyStatic_73 : decode prog_9_method_30_code 73 = .ok (.getfield 137, 3) := by decide +kernel
theorem dM_copyStatic_76 : decode prog_9_method_30_code 76 = .ok (.iload_n 2, 1) := by decide +kernel
theorem dM_copyStatic_77 : decode prog_9_method_30_code 77 = .ok (.aload_n 0, 1) := by decide +kernel
theorem dM_copyStatic_78 : decode prog_9_method_30_code 78 = .ok (.getfield 17, 3) := by decide +kernel
theorem dM_copyStatic_81 : decode prog_9_method_30_code 81 = .ok (.iload_n 2, 1) := by decide +kernel
theorem dM_copyStatic_82 : decode prog_9_method_30_code 82 = .ok (.iaload, 1) := by decide +kernel
theorem dM_copyStatic_83 : decode prog_9_method_30_code 83 = .ok (.ifCond .ge 10, 3) := by decide +kernel
theorem dM_copyStatic_86 : decode prog_9_method_30_code 86 = .ok (.aload_n 0, 1) := by decide +kernel
theorem dM_copyStatic_87 : decode prog_9_method_30_code 87 = .ok (.invokevirtual 253, 3) := by decide +kernel
theorem dM_copyStatic_90 : decode prog_9_method_30_code 90 = .ok (.goto 16, 3) := by decide +kernel
theorem dM_copyStatic_93 : decode prog_9_method_30_code 93 = .ok (.aload_n 0, 1) := by decide +kernel
theorem dM_copyStatic_94 : decode prog_9_method_30_code 94 = .ok (.aload_n 0, 1) := by decide +kernel
theorem dM_copyStatic_95 : decode prog_9_method_30_code 95 = .ok (.getfield 17, 3) := by decide +kernel
theorem dM_copyStatic_98 : decode prog_9_method_30_code 98 = .ok (.iload_n 2, 1) := by decide +kernel
theorem dM_copyStatic_99 : decode prog_9_method_30_code 99 = .ok (.iaload, 1) := by decide +kernel
theorem dM_copyStatic_100 : decode prog_9_method_30_code 100 = .ok (.iload_n 3, 1) := by decide +kernel
theorem dM_copyStatic_101 : decode prog_9_method_30_code 101 = .ok (.iload 4, 2) := by decide +kernel
theorem dM_copyStatic_103 : decode prog_9_method_30_code 103 = .ok (.invokevirtual 234, 3) := by decide +kernel
theorem dM_copyStatic_106 : decode prog_9_method_30_code 106 = .ok (.iastore, 1) := by decide +kernel
theorem dM_copyStatic_107 : decode prog_9_method_30_code 107 = .ok (.iinc 2 1, 3) := by decide +kernel
theorem dM_copyStatic_110 : decode prog_9_method_30_code 110 = .ok (.goto (-103), 3) := by decide +kernel
theorem dM_copyStatic_113 : decode prog_9_method_30_code 113 = .ok (.aload_n 0, 1) := by decide +kernel
theorem dM_copyStatic_114 : decode prog_9_method_30_code 114 = .ok (.getfield 137, 3) := by decide +kernel
theorem dM_copyStatic_117 : decode prog_9_method_30_code 117 = .ok (.iload_n 1, 1) := by decide +kernel
theorem dM_copyStatic_118 : decode prog_9_method_30_code 118 = .ok (.iaload, 1) := by decide +kernel
theorem dM_copyStatic_119 : decode prog_9_method_30_code 119 = .ok (.ireturn, 1) := by decide +kernel
theorem dM_addWant_0 : decode prog_9_method_31_code 0 = .ok (.aload_n 0, 1) := by decide +kernel
theorem dM_addWant_1 : decode prog_9_method_31_code 1 = .ok (.getfield 143, 3) := by decide +kernel
theorem dM_addWant_4 : decode prog_9_method_31_code 4 = .ok (.aload_n 0, 1) := by decide +kernel
theorem dM_addWant_5 : decode prog_9_method_31_code 5 = .ok (.getfield 257, 3) := by decide +kernel
theorem dM_addWant_8 : decode prog_9_method_31_code 8 = .ok (.iload_n 1, 1) := by decide +kernel
theorem dM_addWant_9 : decode prog_9_method_31_code 9 = .ok (.iastore, 1) := by decide +kernel
theorem dM_addWant_10 : decode prog_9_method_31_code 10 = .ok (.aload_n 0, 1) := by decide +kernel
theorem dM_addWant_11 : decode prog_9_method_31_code 11 = .ok (.getfield 146, 3) := by decide +kernel
theorem dM_addWant_14 : decode prog_9_method_31_code 14 = .ok (.aload_n 0, 1) := by decide +kernel
theorem dM_addWant_15 : decode prog_9_method_31_code 15 = .ok (.getfield 257, 3) := by decide +kernel
theorem dM_addWant_18 : decode prog_9_method_31_code 18 = .ok (.iload_n 2, 1) := by decide +kernel
theorem dM_addWant_19 : decode prog_9_method_31_code 19 = .ok (.iastore, 1) := by decide +kernel
theorem dM_addWant_20 : decode prog_9_method_31_code 20 = .ok (.aload_n 0, 1) := by decide +kernel
theorem dM_addWant_21 : decode prog_9_method_31_code 21 = .ok (.dup, 1) := by decide +kernel
theorem dM_addWant_22 : decode prog_9_method_31_code 22 = .ok (.getfield 257, 3) := by decide +kernel
theorem dM_addWant_25 : decode prog_9_method_31_code 25 = .ok (.iconst 1, 1) := by decide +kernel
theorem dM_addWant_26 : decode prog_9_method_31_code 26 = .ok (.iadd, 1) := by decide +kernel
theorem dM_addWant_27 : decode prog_9_method_31_code 27 = .ok (.putfield 257, 3) := by decide +kernel
theorem dM_addWant_30 : decode prog_9_method_31_code 30 = .ok (.return_, 1) := by decide +kernel
