abbrev yI_infer : MethodName := { cls := "ClassInference", name := "infer", desc := "(I)I" }
abbrev yI_is : MethodName := { cls := "ClassInference", name := "is", desc := "(II)I" }
theorem wm294 : (Jvm.Cond.methodLink "ClassInferenceLaw" (13 : Nat) ({ cls := "ClassInference", name := "constructor", desc := "(I)I" } : Jvm.MethodName)) ∈ wAll := mw 294 (by decide +kernel) (by decide +kernel)
theorem wm302 : (Jvm.Cond.methodLink "ClassInferenceLaw" (18 : Nat) ({ cls := "ClassInference", name := "variable", desc := "(I)I" } : Jvm.MethodName)) ∈ wAll := mw 302 (by decide +kernel) (by decide +kernel)
theorem wm318 : (Jvm.Cond.methodLink "ClassInferenceLaw" (22 : Nat) ({ cls := "ClassInference", name := "type", desc := "(III)I" } : Jvm.MethodName)) ∈ wAll := mw 318 (by decide +kernel) (by decide +kernel)
theorem wm338 : (Jvm.Cond.methodLink "ClassInferenceLaw" (27 : Nat) ({ cls := "ClassInference", name := "class0", desc := "(I)I" } : Jvm.MethodName)) ∈ wAll := mw 338 (by decide +kernel) (by decide +kernel)
theorem wm350 : (Jvm.Cond.methodLink "ClassInferenceLaw" (31 : Nat) ({ cls := "ClassInference", name := "method", desc := "(II)I" } : Jvm.MethodName)) ∈ wAll := mw 350 (by decide +kernel) (by decide +kernel)
theorem wm366 : (Jvm.Cond.methodLink "ClassInferenceLaw" (36 : Nat) ({ cls := "ClassInference", name := "instance", desc := "(IIII)I" } : Jvm.MethodName)) ∈ wAll := mw 366 (by decide +kernel) (by decide +kernel)
theorem wm389 : (Jvm.Cond.methodLink "ClassInferenceLaw" (41 : Nat) ({ cls := "ClassInference", name := "expression", desc := "(IIII)I" } : Jvm.MethodName)) ∈ wAll := mw 389 (by decide +kernel) (by decide +kernel)
theorem wm415 : (Jvm.Cond.methodLink "ClassInferenceLaw" (45 : Nat) ({ cls := "ClassInference", name := "infer", desc := "(I)I" } : Jvm.MethodName)) ∈ wAll := mw 415 (by decide +kernel) (by decide +kernel)
theorem wm416 : (Jvm.Cond.instanceMethod ({ cls := "ClassInference", name := "infer", desc := "(I)I" } : Jvm.MethodName)) ∈ wAll := mw 416 (by decide +kernel) (by decide +kernel)
theorem wm417 : (Jvm.Cond.selects "ClassInference" ({ cls := "ClassInference", name := "infer", desc := "(I)I" } : Jvm.MethodName) ({ cls := "ClassInference", name := "infer", desc := "(I)I" } : Jvm.MethodName)) ∈ wAll := mw 417 (by decide +kernel) (by decide +kernel)
theorem wm418 : (Jvm.Cond.code ({ cls := "ClassInference", name := "infer", desc := "(I)I" } : Jvm.MethodName) prog_1_method_11_code (3 : Nat) (Option.some Jvm.ClassFile.FieldType.int)) ∈ wAll := mw 418 (by decide +kernel) (by decide +kernel)
theorem wm419 : (Jvm.Cond.methodLink "ClassInference" (104 : Nat) ({ cls := "ClassInference$ExpressionTable", name := "nodesOf", desc := "(I)I" } : Jvm.MethodName)) ∈ wAll := mw 419 (by decide +kernel) (by decide +kernel)
theorem wm641 : (Jvm.Cond.methodLink "ClassInferenceLaw" (49 : Nat) ({ cls := "ClassInference", name := "shape", desc := "(I)I" } : Jvm.MethodName)) ∈ wAll := mw 641 (by decide +kernel) (by decide +kernel)
theorem wm649 : (Jvm.Cond.methodLink "ClassInferenceLaw" (53 : Nat) ({ cls := "ClassInference", name := "wants", desc := "()I" } : Jvm.MethodName)) ∈ wAll := mw 649 (by decide +kernel) (by decide +kernel)
theorem wm657 : (Jvm.Cond.methodLink "ClassInferenceLaw" (58 : Nat) ({ cls := "ClassInference", name := "want", desc := "(II)I" } : Jvm.MethodName)) ∈ wAll := mw 657 (by decide +kernel) (by decide +kernel)
theorem wm665 : (Jvm.Cond.methodLink "ClassInferenceLaw" (62 : Nat) ({ cls := "ClassInference", name := "passes", desc := "()I" } : Jvm.MethodName)) ∈ wAll := mw 665 (by decide +kernel) (by decide +kernel)
theorem wm673 : (Jvm.Cond.methodLink "ClassInferenceLaw" (66 : Nat) ({ cls := "ClassInference", name := "is", desc := "(II)I" } : Jvm.MethodName)) ∈ wAll := mw 673 (by decide +kernel) (by decide +kernel)
theorem wm674 : (Jvm.Cond.instanceMethod ({ cls := "ClassInference", name := "is", desc := "(II)I" } : Jvm.MethodName)) ∈ wAll := mw 674 (by decide +kernel) (by decide +kernel)
theorem wm675 : (Jvm.Cond.selects "ClassInference" ({ cls := "ClassInference", name := "is", desc := "(II)I" } : Jvm.MethodName) ({ cls := "ClassInference", name := "is", desc := "(II)I" } : Jvm.MethodName)) ∈ wAll := mw 675 (by decide +kernel) (by decide +kernel)
theorem wm676 : (Jvm.Cond.code ({ cls := "ClassInference", name := "is", desc := "(II)I" } : Jvm.MethodName) prog_1_method_16_code (3 : Nat) (Option.some Jvm.ClassFile.FieldType.int)) ∈ wAll := mw 676 (by decide +kernel) (by decide +kernel)
theorem wm677 : (Jvm.Cond.methodLink "ClassInference" (131 : Nat) ({ cls := "ClassInference$TypeTable", name := "holdsVariables", desc := "(I)Z" } : Jvm.MethodName)) ∈ wAll := mw 677 (by decide +kernel) (by decide +kernel)
theorem wm691 : (Jvm.Cond.methodLink "ClassInferenceLaw" (70 : Nat) ({ cls := "ClassInference", name := "under", desc := "(II)I" } : Jvm.MethodName)) ∈ wAll := mw 691 (by decide +kernel) (by decide +kernel)
theorem wm696 : (Jvm.Cond.methodLink "ClassInferenceLaw" (74 : Nat) ({ cls := "ClassInference", name := "types", desc := "()I" } : Jvm.MethodName)) ∈ wAll := mw 696 (by decide +kernel) (by decide +kernel)
theorem wm700 : (Jvm.Cond.methodLink "ClassInferenceLaw" (78 : Nat) ({ cls := "ClassInference", name := "classes", desc := "()I" } : Jvm.MethodName)) ∈ wAll := mw 700 (by decide +kernel) (by decide +kernel)
theorem wm704 : (Jvm.Cond.methodLink "ClassInferenceLaw" (82 : Nat) ({ cls := "ClassInference", name := "expressions", desc := "()I" } : Jvm.MethodName)) ∈ wAll := mw 704 (by decide +kernel) (by decide +kernel)
theorem wm940 : (Jvm.Cond.methodLink "ClassInferenceLaw" (17 : Nat) ({ cls := "ClassInferenceModel", name := "constructor", desc := "(I)I" } : Jvm.MethodName)) ∈ wAll := mw 940 (by decide +kernel) (by decide +kernel)
theorem wm947 : (Jvm.Cond.methodLink "ClassInferenceLaw" (21 : Nat) ({ cls := "ClassInferenceModel", name := "variable", desc := "(I)I" } : Jvm.MethodName)) ∈ wAll := mw 947 (by decide +kernel) (by decide +kernel)
theorem wm955 : (Jvm.Cond.methodLink "ClassInferenceLaw" (26 : Nat) ({ cls := "ClassInferenceModel", name := "type", desc := "(III)I" } : Jvm.MethodName)) ∈ wAll := mw 955 (by decide +kernel) (by decide +kernel)
theorem wm959 : (Jvm.Cond.methodLink "ClassInferenceLaw" (30 : Nat) ({ cls := "ClassInferenceModel", name := "class0", desc := "(I)I" } : Jvm.MethodName)) ∈ wAll := mw 959 (by decide +kernel) (by decide +kernel)
theorem wm967 : (Jvm.Cond.methodLink "ClassInferenceLaw" (35 : Nat) ({ cls := "ClassInferenceModel", name := "method", desc := "(II)I" } : Jvm.MethodName)) ∈ wAll := mw 967 (by decide +kernel) (by decide +kernel)
theorem wm979 : (Jvm.Cond.methodLink "ClassInferenceLaw" (40 : Nat) ({ cls := "ClassInferenceModel", name := "instance", desc := "(IIII)I" } : Jvm.MethodName)) ∈ wAll := mw 979 (by decide +kernel) (by decide +kernel)
theorem wm991 : (Jvm.Cond.methodLink "ClassInferenceLaw" (44 : Nat) ({ cls := "ClassInferenceModel", name := "expression", desc := "(IIII)I" } : Jvm.MethodName)) ∈ wAll := mw 991 (by decide +kernel) (by decide +kernel)
theorem wm999 : (Jvm.Cond.methodLink "ClassInferenceLaw" (48 : Nat) ({ cls := "ClassInferenceModel", name := "infer", desc := "(I)I" } : Jvm.MethodName)) ∈ wAll := mw 999 (by decide +kernel) (by decide +kernel)
theorem wm1110 : (Jvm.Cond.methodLink "ClassInferenceLaw" (52 : Nat) ({ cls := "ClassInferenceModel", name := "shape", desc := "(I)I" } : Jvm.MethodName)) ∈ wAll := mw 1110 (by decide +kernel) (by decide +kernel)
theorem wm1118 : (Jvm.Cond.methodLink "ClassInferenceLaw" (57 : Nat) ({ cls := "ClassInferenceModel", name := "wants", desc := "()I" } : Jvm.MethodName)) ∈ wAll := mw 1118 (by decide +kernel) (by decide +kernel)
theorem wm1122 : (Jvm.Cond.methodLink "ClassInferenceLaw" (61 : Nat) ({ cls := "ClassInferenceModel", name := "want", desc := "(II)I" } : Jvm.MethodName)) ∈ wAll := mw 1122 (by decide +kernel) (by decide +kernel)
theorem wm1126 : (Jvm.Cond.methodLink "ClassInferenceLaw" (65 : Nat) ({ cls := "ClassInferenceModel", name := "passes", desc := "()I" } : Jvm.MethodName)) ∈ wAll := mw 1126 (by decide +kernel) (by decide +kernel)
theorem wm1130 : (Jvm.Cond.methodLink "ClassInferenceLaw" (69 : Nat) ({ cls := "ClassInferenceModel", name := "is", desc := "(II)I" } : Jvm.MethodName)) ∈ wAll := mw 1130 (by decide +kernel) (by decide +kernel)
theorem wm1134 : (Jvm.Cond.methodLink "ClassInferenceLaw" (73 : Nat) ({ cls := "ClassInferenceModel", name := "under", desc := "(II)I" } : Jvm.MethodName)) ∈ wAll := mw 1134 (by decide +kernel) (by decide +kernel)
theorem wm1138 : (Jvm.Cond.methodLink "ClassInferenceLaw" (77 : Nat) ({ cls := "ClassInferenceModel", name := "types", desc := "()I" } : Jvm.MethodName)) ∈ wAll := mw 1138 (by decide +kernel) (by decide +kernel)
theorem wm1142 : (Jvm.Cond.methodLink "ClassInferenceLaw" (81 : Nat) ({ cls := "ClassInferenceModel", name := "classes", desc := "()I" } : Jvm.MethodName)) ∈ wAll := mw 1142 (by decide +kernel) (by decide +kernel)
theorem wm1146 : (Jvm.Cond.methodLink "ClassInferenceLaw" (85 : Nat) ({ cls := "ClassInferenceModel", name := "expressions", desc := "()I" } : Jvm.MethodName)) ∈ wAll := mw 1146 (by decide +kernel) (by decide +kernel)
theorem d_law_0 : decode code 0 = .ok (.new 7, 3) := by decide +kernel
theorem d_law_3 : decode code 3 = .ok (.dup, 1) := by decide +kernel
theorem d_law_4 : decode code 4 = .ok (.invokespecial 9, 3) := by decide +kernel
theorem d_law_7 : decode code 7 = .ok (.astore_n 1, 1) := by decide +kernel
theorem d_law_8 : decode code 8 = .ok (.new 10, 3) := by decide +kernel
theorem d_law_11 : decode code 11 = .ok (.dup, 1) := by decide +kernel
theorem d_law_12 : decode code 12 = .ok (.invokespecial 12, 3) := by decide +kernel
theorem d_law_15 : decode code 15 = .ok (.astore_n 2, 1) := by decide +kernel
theorem d_law_16 : decode code 16 = .ok (.iconst 0, 1) := by decide +kernel
theorem d_law_17 : decode code 17 = .ok (.istore_n 3, 1) := by decide +kernel
theorem d_law_18 : decode code 18 = .ok (.iload_n 3, 1) := by decide +kernel
theorem d_law_19 : decode code 19 = .ok (.aload_n 0, 1) := by decide +kernel
theorem d_law_20 : decode code 20 = .ok (.arraylength, 1) := by decide +kernel
theorem d_law_21 : decode code 21 = .ok (.iconst 5, 1) := by decide +kernel
theorem d_law_22 : decode code 22 = .ok (.isub, 1) := by decide +kernel
theorem d_law_23 : decode code 23 = .ok (.if_icmp .gt 560, 3) := by decide +kernel
theorem d_law_26 : decode code 26 = .ok (.aload_n 0, 1) := by decide +kernel
theorem d_law_27 : decode code 27 = .ok (.iload_n 3, 1) := by decide +kernel
theorem d_law_28 : decode code 28 = .ok (.iaload, 1) := by decide +kernel
theorem d_law_29 : decode code 29 = .ok (.bipush 31, 2) := by decide +kernel
theorem d_law_31 : decode code 31 = .ok (.iand, 1) := by decide +kernel
theorem d_law_32 : decode code 32 = .ok (.tableswitch 545 0 16 #[84, 107, 130, 173, 196, 229, 282, 335, 358, 381, 394, 427, 440, 473, 506, 519, 532], 84) := by decide +kernel
theorem d_law_116 : decode code 116 = .ok (.aload_n 1, 1) := by decide +kernel
theorem d_law_117 : decode code 117 = .ok (.aload_n 0, 1) := by decide +kernel
theorem d_law_118 : decode code 118 = .ok (.iload_n 3, 1) := by decide +kernel
theorem d_law_119 : decode code 119 = .ok (.iconst 1, 1) := by decide +kernel
theorem d_law_120 : decode code 120 = .ok (.iadd, 1) := by decide +kernel
theorem d_law_121 : decode code 121 = .ok (.iaload, 1) := by decide +kernel
theorem d_law_122 : decode code 122 = .ok (.invokevirtual 13, 3) := by decide +kernel
theorem d_law_125 : decode code 125 = .ok (.pop, 1) := by decide +kernel
theorem d_law_126 : decode code 126 = .ok (.aload_n 2, 1) := by decide +kernel
theorem d_law_127 : decode code 127 = .ok (.aload_n 0, 1) := by decide +kernel
theorem d_law_128 : decode code 128 = .ok (.iload_n 3, 1) := by decide +kernel
theorem d_law_129 : decode code 129 = .ok (.iconst 1, 1) := by decide +kernel
theorem d_law_130 : decode code 130 = .ok (.iadd, 1) := by decide +kernel
theorem d_law_131 : decode code 131 = .ok (.iaload, 1) := by decide +kernel
theorem d_law_132 : decode code 132 = .ok (.invokevirtual 17, 3) := by decide +kernel
theorem d_law_135 : decode code 135 = .ok (.pop, 1) := by decide +kernel
theorem d_law_136 : decode code 136 = .ok (.goto 441, 3) := by decide +kernel
theorem d_law_139 : decode code 139 = .ok (.aload_n 1, 1) := by decide +kernel
theorem d_law_140 : decode code 140 = .ok (.aload_n 0, 1) := by decide +kernel
theorem d_law_141 : decode code 141 = .ok (.iload_n 3, 1) := by decide +kernel
theorem d_law_142 : decode code 142 = .ok (.iconst 1, 1) := by decide +kernel
theorem d_law_143 : decode code 143 = .ok (.iadd, 1) := by decide +kernel
theorem d_law_144 : decode code 144 = .ok (.iaload, 1) := by decide +kernel
theorem d_law_145 : decode code 145 = .ok (.invokevirtual 18, 3) := by decide +kernel
theorem d_law_148 : decode code 148 = .ok (.pop, 1) := by decide +kernel
theorem d_law_149 : decode code 149 = .ok (.aload_n 2, 1) := by decide +kernel
theorem d_law_150 : decode code 150 = .ok (.aload_n 0, 1) := by decide +kernel
theorem d_law_151 : decode code 151 = .ok (.iload_n 3, 1) := by decide +kernel
theorem d_law_152 : decode code 152 = .ok (.iconst 1, 1) := by decide +kernel
theorem d_law_153 : decode code 153 = .ok (.iadd, 1) := by decide +kernel
theorem d_law_154 : decode code 154 = .ok (.iaload, 1) := by decide +kernel
theorem d_law_155 : decode code 155 = .ok (.invokevirtual 21, 3) := by decide +kernel
theorem d_law_158 : decode code 158 = .ok (.pop, 1) := by decide +kernel
theorem d_law_159 : decode code 159 = .ok (.goto 418, 3) := by decide +kernel
theorem d_law_162 : decode code 162 = .ok (.aload_n 1, 1) := by decide +kernel
theorem d_law_163 : decode code 163 = .ok (.aload_n 0, 1) := by decide +kernel
theorem d_law_164 : decode code 164 = .ok (.iload_n 3, 1) := by decide +kernel
theorem d_law_165 : decode code 165 = .ok (.iconst 1, 1) := by decide +kernel
theorem d_law_166 : decode code 166 = .ok (.iadd, 1) := by decide +kernel
theorem d_law_167 : decode code 167 = .ok (.iaload, 1) := by decide +kernel
theorem d_law_168 : decode code 168 = .ok (.aload_n 0, 1) := by decide +kernel
theorem d_law_169 : decode code 169 = .ok (.iload_n 3, 1) := by decide +kernel
theorem d_law_170 : decode code 170 = .ok (.iconst 2, 1) := by decide +kernel
theorem d_law_171 : decode code 171 = .ok (.iadd, 1) := by decide +kernel
theorem d_law_172 : decode code 172 = .ok (.iaload, 1) := by decide +kernel
theorem d_law_173 : decode code 173 = .ok (.aload_n 0, 1) := by decide +kernel
theorem d_law_174 : decode code 174 = .ok (.iload_n 3, 1) := by decide +kernel
theorem d_law_175 : decode code 175 = .ok (.iconst 3, 1) := by decide +kernel
theorem d_law_176 : decode code 176 = .ok (.iadd, 1) := by decide +kernel
theorem d_law_177 : decode code 177 = .ok (.iaload, 1) := by decide +kernel
theorem d_law_178 : decode code 178 = .ok (.invokevirtual 22, 3) := by decide +kernel
theorem d_law_181 : decode code 181 = .ok (.pop, 1) := by decide +kernel
theorem d_law_182 : decode code 182 = .ok (.aload_n 2, 1) := by decide +kernel
theorem d_law_183 : decode code 183 = .ok (.aload_n 0, 1) := by decide +kernel
theorem d_law_184 : decode code 184 = .ok (.iload_n 3, 1) := by decide +kernel
theorem d_law_185 : decode code 185 = .ok (.iconst 1, 1) := by decide +kernel
theorem d_law_186 : decode code 186 = .ok (.iadd, 1) := by decide +kernel
theorem d_law_187 : decode code 187 = .ok (.iaload, 1) := by decide +kernel
theorem d_law_188 : decode code 188 = .ok (.aload_n 0, 1) := by decide +kernel
theorem d_law_189 : decode code 189 = .ok (.iload_n 3, 1) := by decide +kernel
theorem d_law_190 : decode code 190 = .ok (.iconst 2, 1) := by decide +kernel
theorem d_law_191 : decode code 191 = .ok (.iadd, 1) := by decide +kernel
theorem d_law_192 : decode code 192 = .ok (.iaload, 1) := by decide +kernel
theorem d_law_193 : decode code 193 = .ok (.aload_n 0, 1) := by decide +kernel
theorem d_law_194 : decode code 194 = .ok (.iload_n 3, 1) := by decide +kernel
theorem d_law_195 : decode code 195 = .ok (.iconst 3, 1) := by decide +kernel
theorem d_law_196 : decode code 196 = .ok (.iadd, 1) := by decide +kernel
theorem d_law_197 : decode code 197 = .ok (.iaload, 1) := by decide +kernel
theorem d_law_198 : decode code 198 = .ok (.invokevirtual 26, 3) := by decide +kernel
theorem d_law_201 : decode code 201 = .ok (.pop, 1) := by decide +kernel
theorem d_law_202 : decode code 202 = .ok (.goto 375, 3) := by decide +kernel
theorem d_law_205 : decode code 205 = .ok (.aload_n 1, 1) := by decide +kernel
theorem d_law_206 : decode code 206 = .ok (.aload_n 0, 1) := by decide +kernel
theorem d_law_207 : decode code 207 = .ok (.iload_n 3, 1) := by decide +kernel
theorem d_law_208 : decode code 208 = .ok (.iconst 1, 1) := by decide +kernel
theorem d_law_209 : decode code 209 = .ok (.iadd, 1) := by decide +kernel
theorem d_law_210 : decode code 210 = .ok (.iaload, 1) := by decide +kernel
theorem d_law_211 : decode code 211 = .ok (.invokevirtual 27, 3) := by decide +kernel
theorem d_law_214 : decode code 214 = .ok (.pop, 1) := by decide +kernel
theorem d_law_215 : decode code 215 = .ok (.aload_n 2, 1) := by decide +kernel
theorem d_law_216 : decode code 216 = .ok (.aload_n 0, 1) := by decide +kernel
theorem d_law_217 : decode code 217 = .ok (.iload_n 3, 1) := by decide +kernel
theorem d_law_218 : decode code 218 = .ok (.iconst 1, 1) := by decide +kernel
theorem d_law_219 : decode code 219 = .ok (.iadd, 1) := by decide +kernel
theorem d_law_220 : decode code 220 = .ok (.iaload, 1) := by decide +kernel
theorem d_law_221 : decode code 221 = .ok (.invokevirtual 30, 3) := by decide +kernel
theorem d_law_224 : decode code 224 = .ok (.pop, 1) := by decide +kernel
theorem d_law_225 : decode code 225 = .ok (.goto 352, 3) := by decide +kernel
theorem d_law_228 : decode code 228 = .ok (.aload_n 1, 1) := by decide +kernel
theorem d_law_229 : decode code 229 = .ok (.aload_n 0, 1) := by decide +kernel
theorem d_law_230 : decode code 230 = .ok (.iload_n 3, 1) := by decide +kernel
theorem d_law_231 : decode code 231 = .ok (.iconst 1, 1) := by decide +kernel
theorem d_law_232 : decode code 232 = .ok (.iadd, 1) := by decide +kernel
theorem d_law_233 : decode code 233 = .ok (.iaload, 1) := by decide +kernel
theorem d_law_234 : decode code 234 = .ok (.aload_n 0, 1) := by decide +kernel
theorem d_law_235 : decode code 235 = .ok (.iload_n 3, 1) := by decide +kernel
theorem d_law_236 : decode code 236 = .ok (.iconst 2, 1) := by decide +kernel
theorem d_law_237 : decode code 237 = .ok (.iadd, 1) := by decide +kernel
theorem d_law_238 : decode code 238 = .ok (.iaload, 1) := by decide +kernel
theorem d_law_239 : decode code 239 = .ok (.invokevirtual 31, 3) := by decide +kernel
theorem d_law_242 : decode code 242 = .ok (.pop, 1) := by decide +kernel
theorem d_law_243 : decode code 243 = .ok (.aload_n 2, 1) := by decide +kernel
theorem d_law_244 : decode code 244 = .ok (.aload_n 0, 1) := by decide +kernel
theorem d_law_245 : decode code 245 = .ok (.iload_n 3, 1) := by decide +kernel
theorem d_law_246 : decode code 246 = .ok (.iconst 1, 1) := by decide +kernel
theorem d_law_247 : decode code 247 = .ok (.iadd, 1) := by decide +kernel
theorem d_law_248 : decode code 248 = .ok (.iaload, 1) := by decide +kernel
theorem d_law_249 : decode code 249 = .ok (.aload_n 0, 1) := by decide +kernel
theorem d_law_250 : decode code 250 = .ok (.iload_n 3, 1) := by decide +kernel
theorem d_law_251 : decode code 251 = .ok (.iconst 2, 1) := by decide +kernel
theorem d_law_252 : decode code 252 = .ok (.iadd, 1) := by decide +kernel
theorem d_law_253 : decode code 253 = .ok (.iaload, 1) := by decide +kernel
theorem d_law_254 : decode code 254 = .ok (.invokevirtual 35, 3) := by decide +kernel
theorem d_law_257 : decode code 257 = .ok (.pop, 1) := by decide +kernel
theorem d_law_258 : decode code 258 = .ok (.goto 319, 3) := by decide +kernel
theorem d_law_261 : decode code 261 = .ok (.aload_n 1, 1) := by decide +kernel
theorem d_law_262 : decode code 262 = .ok (.aload_n 0, 1) := by decide +kernel
theorem d_law_263 : decode code 263 = .ok (.iload_n 3, 1) := by decide +kernel
theorem d_law_264 : decode code 264 = .ok (.iconst 1, 1) := by decide +kernel
theorem d_law_265 : decode code 265 = .ok (.iadd, 1) := by decide +kernel
theorem d_law_266 : decode code 266 = .ok (.iaload, 1) := by decide +kernel
theorem d_law_267 : decode code 267 = .ok (.aload_n 0, 1) := by decide +kernel
theorem d_law_268 : decode code 268 = .ok (.iload_n 3, 1) := by decide +kernel
theorem d_law_269 : decode code 269 = .ok (.iconst 2, 1) := by decide +kernel
theorem d_law_270 : decode code 270 = .ok (.iadd, 1) := by decide +kernel
theorem d_law_271 : decode code 271 = .ok (.iaload, 1) := by decide +kernel
theorem d_law_272 : decode code 272 = .ok (.aload_n 0, 1) := by decide +kernel
theorem d_law_273 : decode code 273 = .ok (.iload_n 3, 1) := by decide +kernel
theorem d_law_274 : decode code 274 = .ok (.iconst 3, 1) := by decide +kernel
theorem d_law_275 : decode code 275 = .ok (.iadd, 1) := by decide +kernel
theorem d_law_276 : decode code 276 = .ok (.iaload, 1) := by decide +kernel
theorem d_law_277 : decode code 277 = .ok (.aload_n 0, 1) := by decide +kernel
theorem d_law_278 : decode code 278 = .ok (.iload_n 3, 1) := by decide +kernel
theorem d_law_279 : decode code 279 = .ok (.iconst 4, 1) := by decide +kernel
theorem d_law_280 : decode code 280 = .ok (.iadd, 1) := by decide +kernel
theorem d_law_281 : decode code 281 = .ok (.iaload, 1) := by decide +kernel
theorem d_law_282 : decode code 282 = .ok (.invokevirtual 36, 3) := by decide +kernel
theorem d_law_285 : decode code 285 = .ok (.pop, 1) := by decide +kernel
theorem d_law_286 : decode code 286 = .ok (.aload_n 2, 1) := by decide +kernel
theorem d_law_287 : decode code 287 = .ok (.aload_n 0, 1) := by decide +kernel
theorem d_law_288 : decode code 288 = .ok (.iload_n 3, 1) := by decide +kernel
theorem d_law_289 : decode code 289 = .ok (.iconst 1, 1) := by decide +kernel
theorem d_law_290 : decode code 290 = .ok (.iadd, 1) := by decide +kernel
theorem d_law_291 : decode code 291 = .ok (.iaload, 1) := by decide +kernel
theorem d_law_292 : decode code 292 = .ok (.aload_n 0, 1) := by decide +kernel
theorem d_law_293 : decode code 293 = .ok (.iload_n 3, 1) := by decide +kernel
theorem d_law_294 : decode code 294 = .ok (.iconst 2, 1) := by decide +kernel
theorem d_law_295 : decode code 295 = .ok (.iadd, 1) := by decide +kernel
theorem d_law_296 : decode code 296 = .ok (.iaload, 1) := by decide +kernel
theorem d_law_297 : decode code 297 = .ok (.aload_n 0, 1) := by decide +kernel
theorem d_law_298 : decode code 298 = .ok (.iload_n 3, 1) := by decide +kernel
theorem d_law_299 : decode code 299 = .ok (.iconst 3, 1) := by decide +kernel
theorem d_law_300 : decode code 300 = .ok (.iadd, 1) := by decide +kernel
theorem d_law_301 : decode code 301 = .ok (.iaload, 1) := by decide +kernel
theorem d_law_302 : decode code 302 = .ok (.aload_n 0, 1) := by decide +kernel
theorem d_law_303 : decode code 303 = .ok (.iload_n 3, 1) := by decide +kernel
theorem d_law_304 : decode code 304 = .ok (.iconst 4, 1) := by decide +kernel
theorem d_law_305 : decode code 305 = .ok (.iadd, 1) := by decide +kernel
theorem d_law_306 : decode code 306 = .ok (.iaload, 1) := by decide +kernel
theorem d_law_307 : decode code 307 = .ok (.invokevirtual 40, 3) := by decide +kernel
theorem d_law_310 : decode code 310 = .ok (.pop, 1) := by decide +kernel
theorem d_law_311 : decode code 311 = .ok (.goto 266, 3) := by decide +kernel
theorem d_law_314 : decode code 314 = .ok (.aload_n 1, 1) := by decide +kernel
theorem d_law_315 : decode code 315 = .ok (.aload_n 0, 1) := by decide +kernel
theorem d_law_316 : decode code 316 = .ok (.iload_n 3, 1) := by decide +kernel
theorem d_law_317 : decode code 317 = .ok (.iconst 1, 1) := by decide +kernel
theorem d_law_318 : decode code 318 = .ok (.iadd, 1) := by decide +kernel
theorem d_law_319 : decode code 319 = .ok (.iaload, 1) := by decide +kernel
theorem d_law_320 : decode code 320 = .ok (.aload_n 0, 1) := by decide +kernel
theorem d_law_321 : decode code 321 = .ok (.iload_n 3, 1) := by decide +kernel
theorem d_law_322 : decode code 322 = .ok (.iconst 2, 1) := by decide +kernel
theorem d_law_323 : decode code 323 = .ok (.iadd, 1) := by decide +kernel
theorem d_law_324 : decode code 324 = .ok (.iaload, 1) := by decide +kernel
theorem d_law_325 : decode code 325 = .ok (.aload_n 0, 1) := by decide +kernel
theorem d_law_326 : decode code 326 = .ok (.iload_n 3, 1) := by decide +kernel
theorem d_law_327 : decode code 327 = .ok (.iconst 3, 1) := by decide +kernel
theorem d_law_328 : decode code 328 = .ok (.iadd, 1) := by decide +kernel
theorem d_law_329 : decode code 329 = .ok (.iaload, 1) := by decide +kernel
theorem d_law_330 : decode code 330 = .ok (.aload_n 0, 1) := by decide +kernel
theorem d_law_331 : decode code 331 = .ok (.iload_n 3, 1) := by decide +kernel
theorem d_law_332 : decode code 332 = .ok (.iconst 4, 1) := by decide +kernel
theorem d_law_333 : decode code 333 = .ok (.iadd, 1) := by decide +kernel
theorem d_law_334 : decode code 334 = .ok (.iaload, 1) := by decide +kernel
theorem d_law_335 : decode code 335 = .ok (.invokevirtual 41, 3) := by decide +kernel
theorem d_law_338 : decode code 338 = .ok (.pop, 1) := by decide +kernel
theorem d_law_339 : decode code 339 = .ok (.aload_n 2, 1) := by decide +kernel
theorem d_law_340 : decode code 340 = .ok (.aload_n 0, 1) := by decide +kernel
theorem d_law_341 : decode code 341 = .ok (.iload_n 3, 1) := by decide +kernel
theorem d_law_342 : decode code 342 = .ok (.iconst 1, 1) := by decide +kernel
theorem d_law_343 : decode code 343 = .ok (.iadd, 1) := by decide +kernel
theorem d_law_344 : decode code 344 = .ok (.iaload, 1) := by decide +kernel
theorem d_law_345 : decode code 345 = .ok (.aload_n 0, 1) := by decide +kernel
theorem d_law_346 : decode code 346 = .ok (.iload_n 3, 1) := by decide +kernel
theorem d_law_347 : decode code 347 = .ok (.iconst 2, 1) := by decide +kernel
theorem d_law_348 : decode code 348 = .ok (.iadd, 1) := by decide +kernel
theorem d_law_349 : decode code 349 = .ok (.iaload, 1) := by decide +kernel
theorem d_law_350 : decode code 350 = .ok (.aload_n 0, 1) := by decide +kernel
theorem d_law_351 : decode code 351 = .ok (.iload_n 3, 1) := by decide +kernel
theorem d_law_352 : decode code 352 = .ok (.iconst 3, 1) := by decide +kernel
theorem d_law_353 : decode code 353 = .ok (.iadd, 1) := by decide +kernel
theorem d_law_354 : decode code 354 = .ok (.iaload, 1) := by decide +kernel
theorem d_law_355 : decode code 355 = .ok (.aload_n 0, 1) := by decide +kernel
theorem d_law_356 : decode code 356 = .ok (.iload_n 3, 1) := by decide +kernel
theorem d_law_357 : decode code 357 = .ok (.iconst 4, 1) := by decide +kernel
theorem d_law_358 : decode code 358 = .ok (.iadd, 1) := by decide +kernel
theorem d_law_359 : decode code 359 = .ok (.iaload, 1) := by decide +kernel
theorem d_law_360 : decode code 360 = .ok (.invokevirtual 44, 3) := by decide +kernel
theorem d_law_363 : decode code 363 = .ok (.pop, 1) := by decide +kernel
theorem d_law_364 : decode code 364 = .ok (.goto 213, 3) := by decide +kernel
theorem d_law_367 : decode code 367 = .ok (.aload_n 1, 1) := by decide +kernel
theorem d_law_368 : decode code 368 = .ok (.aload_n 0, 1) := by decide +kernel
theorem d_law_369 : decode code 369 = .ok (.iload_n 3, 1) := by decide +kernel
theorem d_law_370 : decode code 370 = .ok (.iconst 1, 1) := by decide +kernel
theorem d_law_371 : decode code 371 = .ok (.iadd, 1) := by decide +kernel
theorem d_law_372 : decode code 372 = .ok (.iaload, 1) := by decide +kernel
theorem d_law_373 : decode code 373 = .ok (.invokevirtual 45, 3) := by decide +kernel
theorem d_law_376 : decode code 376 = .ok (.pop, 1) := by decide +kernel
theorem d_law_377 : decode code 377 = .ok (.aload_n 2, 1) := by decide +kernel
theorem d_law_378 : decode code 378 = .ok (.aload_n 0, 1) := by decide +kernel
theorem d_law_379 : decode code 379 = .ok (.iload_n 3, 1) := by decide +kernel
theorem d_law_380 : decode code 380 = .ok (.iconst 1, 1) := by decide +kernel
theorem d_law_381 : decode code 381 = .ok (.iadd, 1) := by decide +kernel
theorem d_law_382 : decode code 382 = .ok (.iaload, 1) := by decide +kernel
theorem d_law_383 : decode code 383 = .ok (.invokevirtual 48, 3) := by decide +kernel
theorem d_law_386 : decode code 386 = .ok (.pop, 1) := by decide +kernel
theorem d_law_387 : decode code 387 = .ok (.goto 190, 3) := by decide +kernel
theorem d_law_390 : decode code 390 = .ok (.aload_n 1, 1) := by decide +kernel
theorem d_law_391 : decode code 391 = .ok (.aload_n 0, 1) := by decide +kernel
theorem d_law_392 : decode code 392 = .ok (.iload_n 3, 1) := by decide +kernel
theorem d_law_393 : decode code 393 = .ok (.iconst 1, 1) := by decide +kernel
theorem d_law_394 : decode code 394 = .ok (.iadd, 1) := by decide +kernel
theorem d_law_395 : decode code 395 = .ok (.iaload, 1) := by decide +kernel
theorem d_law_396 : decode code 396 = .ok (.invokevirtual 49, 3) := by decide +kernel
theorem d_law_399 : decode code 399 = .ok (.pop, 1) := by decide +kernel
theorem d_law_400 : decode code 400 = .ok (.aload_n 2, 1) := by decide +kernel
theorem d_law_401 : decode code 401 = .ok (.aload_n 0, 1) := by decide +kernel
theorem d_law_402 : decode code 402 = .ok (.iload_n 3, 1) := by decide +kernel
theorem d_law_403 : decode code 403 = .ok (.iconst 1, 1) := by decide +kernel
theorem d_law_404 : decode code 404 = .ok (.iadd, 1) := by decide +kernel
theorem d_law_405 : decode code 405 = .ok (.iaload, 1) := by decide +kernel
theorem d_law_406 : decode code 406 = .ok (.invokevirtual 52, 3) := by decide +kernel
theorem d_law_409 : decode code 409 = .ok (.pop, 1) := by decide +kernel
theorem d_law_410 : decode code 410 = .ok (.goto 167, 3) := by decide +kernel
theorem d_law_413 : decode code 413 = .ok (.aload_n 1, 1) := by decide +kernel
theorem d_law_414 : decode code 414 = .ok (.invokevirtual 53, 3) := by decide +kernel
theorem d_law_417 : decode code 417 = .ok (.pop, 1) := by decide +kernel
theorem d_law_418 : decode code 418 = .ok (.aload_n 2, 1) := by decide +kernel
theorem d_law_419 : decode code 419 = .ok (.invokevirtual 57, 3) := by decide +kernel
theorem d_law_422 : decode code 422 = .ok (.pop, 1) := by decide +kernel
theorem d_law_423 : decode code 423 = .ok (.goto 154, 3) := by decide +kernel
theorem d_law_426 : decode code 426 = .ok (.aload_n 1, 1) := by decide +kernel
theorem d_law_427 : decode code 427 = .ok (.aload_n 0, 1) := by decide +kernel
theorem d_law_428 : decode code 428 = .ok (.iload_n 3, 1) := by decide +kernel
theorem d_law_429 : decode code 429 = .ok (.iconst 1, 1) := by decide +kernel
theorem d_law_430 : decode code 430 = .ok (.iadd, 1) := by decide +kernel
theorem d_law_431 : decode code 431 = .ok (.iaload, 1) := by decide +kernel
theorem d_law_432 : decode code 432 = .ok (.aload_n 0, 1) := by decide +kernel
theorem d_law_433 : decode code 433 = .ok (.iload_n 3, 1) := by decide +kernel
theorem d_law_434 : decode code 434 = .ok (.iconst 2, 1) := by decide +kernel
theorem d_law_435 : decode code 435 = .ok (.iadd, 1) := by decide +kernel
theorem d_law_436 : decode code 436 = .ok (.iaload, 1) := by decide +kernel
theorem d_law_437 : decode code 437 = .ok (.invokevirtual 58, 3) := by decide +kernel
theorem d_law_440 : decode code 440 = .ok (.aload_n 2, 1) := by decide +kernel
theorem d_law_441 : decode code 441 = .ok (.aload_n 0, 1) := by decide +kernel
theorem d_law_442 : decode code 442 = .ok (.iload_n 3, 1) := by decide +kernel
theorem d_law_443 : decode code 443 = .ok (.iconst 1, 1) := by decide +kernel
theorem d_law_444 : decode code 444 = .ok (.iadd, 1) := by decide +kernel
theorem d_law_445 : decode code 445 = .ok (.iaload, 1) := by decide +kernel
theorem d_law_446 : decode code 446 = .ok (.aload_n 0, 1) := by decide +kernel
theorem d_law_447 : decode code 447 = .ok (.iload_n 3, 1) := by decide +kernel
theorem d_law_448 : decode code 448 = .ok (.iconst 2, 1) := by decide +kernel
theorem d_law_449 : decode code 449 = .ok (.iadd, 1) := by decide +kernel
theorem d_law_450 : decode code 450 = .ok (.iaload, 1) := by decide +kernel
theorem d_law_451 : decode code 451 = .ok (.invokevirtual 61, 3) := by decide +kernel
theorem d_law_454 : decode code 454 = .ok (.if_icmp .eq 123, 3) := by decide +kernel
theorem d_law_457 : decode code 457 = .ok (.iconst 0, 1) := by decide +kernel
theorem d_law_458 : decode code 458 = .ok (.ireturn, 1) := by decide +kernel
theorem d_law_459 : decode code 459 = .ok (.aload_n 1, 1) := by decide +kernel
theorem d_law_460 : decode code 460 = .ok (.invokevirtual 62, 3) := by decide +kernel
theorem d_law_463 : decode code 463 = .ok (.pop, 1) := by decide +kernel
theorem d_law_464 : decode code 464 = .ok (.aload_n 2, 1) := by decide +kernel
theorem d_law_465 : decode code 465 = .ok (.invokevirtual 65, 3) := by decide +kernel
theorem d_law_468 : decode code 468 = .ok (.pop, 1) := by decide +kernel
theorem d_law_469 : decode code 469 = .ok (.goto 108, 3) := by decide +kernel
theorem d_law_472 : decode code 472 = .ok (.aload_n 1, 1) := by decide +kernel
theorem d_law_473 : decode code 473 = .ok (.aload_n 0, 1) := by decide +kernel
theorem d_law_474 : decode code 474 = .ok (.iload_n 3, 1) := by decide +kernel
theorem d_law_475 : decode code 475 = .ok (.iconst 1, 1) := by decide +kernel
theorem d_law_476 : decode code 476 = .ok (.iadd, 1) := by decide +kernel
theorem d_law_477 : decode code 477 = .ok (.iaload, 1) := by decide +kernel
theorem d_law_478 : decode code 478 = .ok (.aload_n 0, 1) := by decide +kernel
theorem d_law_479 : decode code 479 = .ok (.iload_n 3, 1) := by decide +kernel
theorem d_law_480 : decode code 480 = .ok (.iconst 2, 1) := by decide +kernel
theorem d_law_481 : decode code 481 = .ok (.iadd, 1) := by decide +kernel
theorem d_law_482 : decode code 482 = .ok (.iaload, 1) := by decide +kernel
theorem d_law_483 : decode code 483 = .ok (.invokevirtual 66, 3) := by decide +kernel
theorem d_law_486 : decode code 486 = .ok (.pop, 1) := by decide +kernel
theorem d_law_487 : decode code 487 = .ok (.aload_n 2, 1) := by decide +kernel
theorem d_law_488 : decode code 488 = .ok (.aload_n 0, 1) := by decide +kernel
theorem d_law_489 : decode code 489 = .ok (.iload_n 3, 1) := by decide +kernel
theorem d_law_490 : decode code 490 = .ok (.iconst 1, 1) := by decide +kernel
theorem d_law_491 : decode code 491 = .ok (.iadd, 1) := by decide +kernel
theorem d_law_492 : decode code 492 = .ok (.iaload, 1) := by decide +kernel
theorem d_law_493 : decode code 493 = .ok (.aload_n 0, 1) := by decide +kernel
theorem d_law_494 : decode code 494 = .ok (.iload_n 3, 1) := by decide +kernel
theorem d_law_495 : decode code 495 = .ok (.iconst 2, 1) := by decide +kernel
theorem d_law_496 : decode code 496 = .ok (.iadd, 1) := by decide +kernel
theorem d_law_497 : decode code 497 = .ok (.iaload, 1) := by decide +kernel
theorem d_law_498 : decode code 498 = .ok (.invokevirtual 69, 3) := by decide +kernel
theorem d_law_501 : decode code 501 = .ok (.pop, 1) := by decide +kernel
theorem d_law_502 : decode code 502 = .ok (.goto 75, 3) := by decide +kernel
theorem d_law_505 : decode code 505 = .ok (.aload_n 1, 1) := by decide +kernel
theorem d_law_506 : decode code 506 = .ok (.aload_n 0, 1) := by decide +kernel
theorem d_law_507 : decode code 507 = .ok (.iload_n 3, 1) := by decide +kernel
theorem d_law_508 : decode code 508 = .ok (.iconst 1, 1) := by decide +kernel
theorem d_law_509 : decode code 509 = .ok (.iadd, 1) := by decide +kernel
theorem d_law_510 : decode code 510 = .ok (.iaload, 1) := by decide +kernel
theorem d_law_511 : decode code 511 = .ok (.aload_n 0, 1) := by decide +kernel
theorem d_law_512 : decode code 512 = .ok (.iload_n 3, 1) := by decide +kernel
theorem d_law_513 : decode code 513 = .ok (.iconst 2, 1) := by decide +kernel
theorem d_law_514 : decode code 514 = .ok (.iadd, 1) := by decide +kernel
theorem d_law_515 : decode code 515 = .ok (.iaload, 1) := by decide +kernel
theorem d_law_516 : decode code 516 = .ok (.invokevirtual 70, 3) := by decide +kernel
theorem d_law_519 : decode code 519 = .ok (.pop, 1) := by decide +kernel
theorem d_law_520 : decode code 520 = .ok (.aload_n 2, 1) := by decide +kernel
theorem d_law_521 : decode code 521 = .ok (.aload_n 0, 1) := by decide +kernel
theorem d_law_522 : decode code 522 = .ok (.iload_n 3, 1) := by decide +kernel
theorem d_law_523 : decode code 523 = .ok (.iconst 1, 1) := by decide +kernel
theorem d_law_524 : decode code 524 = .ok (.iadd, 1) := by decide +kernel
theorem d_law_525 : decode code 525 = .ok (.iaload, 1) := by decide +kernel
theorem d_law_526 : decode code 526 = .ok (.aload_n 0, 1) := by decide +kernel
theorem d_law_527 : decode code 527 = .ok (.iload_n 3, 1) := by decide +kernel
theorem d_law_528 : decode code 528 = .ok (.iconst 2, 1) := by decide +kernel
theorem d_law_529 : decode code 529 = .ok (.iadd, 1) := by decide +kernel
theorem d_law_530 : decode code 530 = .ok (.iaload, 1) := by decide +kernel
theorem d_law_531 : decode code 531 = .ok (.invokevirtual 73, 3) := by decide +kernel
theorem d_law_534 : decode code 534 = .ok (.pop, 1) := by decide +kernel
theorem d_law_535 : decode code 535 = .ok (.goto 42, 3) := by decide +kernel
theorem d_law_538 : decode code 538 = .ok (.aload_n 1, 1) := by decide +kernel
theorem d_law_539 : decode code 539 = .ok (.invokevirtual 74, 3) := by decide +kernel
theorem d_law_542 : decode code 542 = .ok (.pop, 1) := by decide +kernel
theorem d_law_543 : decode code 543 = .ok (.aload_n 2, 1) := by decide +kernel
theorem d_law_544 : decode code 544 = .ok (.invokevirtual 77, 3) := by decide +kernel
theorem d_law_547 : decode code 547 = .ok (.pop, 1) := by decide +kernel
theorem d_law_548 : decode code 548 = .ok (.goto 29, 3) := by decide +kernel
theorem d_law_551 : decode code 551 = .ok (.aload_n 1, 1) := by decide +kernel
theorem d_law_552 : decode code 552 = .ok (.invokevirtual 78, 3) := by decide +kernel
theorem d_law_555 : decode code 555 = .ok (.pop, 1) := by decide +kernel
theorem d_law_556 : decode code 556 = .ok (.aload_n 2, 1) := by decide +kernel
theorem d_law_557 : decode code 557 = .ok (.invokevirtual 81, 3) := by decide +kernel
theorem d_law_560 : decode code 560 = .ok (.pop, 1) := by decide +kernel
theorem d_law_561 : decode code 561 = .ok (.goto 16, 3) := by decide +kernel
theorem d_law_564 : decode code 564 = .ok (.aload_n 1, 1) := by decide +kernel
theorem d_law_565 : decode code 565 = .ok (.invokevirtual 82, 3) := by decide +kernel
theorem d_law_568 : decode code 568 = .ok (.pop, 1) := by decide +kernel
theorem d_law_569 : decode code 569 = .ok (.aload_n 2, 1) := by decide +kernel
theorem d_law_570 : decode code 570 = .ok (.invokevirtual 85, 3) := by decide +kernel
theorem d_law_573 : decode code 573 = .ok (.pop, 1) := by decide +kernel
theorem d_law_574 : decode code 574 = .ok (.goto 3, 3) := by decide +kernel
theorem d_law_577 : decode code 577 = .ok (.iinc 3 5, 3) := by decide +kernel
theorem d_law_580 : decode code 580 = .ok (.goto (-562), 3) := by decide +kernel
theorem d_law_583 : decode code 583 = .ok (.iconst 1, 1) := by decide +kernel
theorem d_law_584 : decode code 584 = .ok (.ireturn, 1) := by decide +kernel
