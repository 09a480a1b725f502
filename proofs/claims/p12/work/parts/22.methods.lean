section MTH
variable {p : Program} {l : Launch} {e : Env} {s : State} {m : MethodId} {args : Array Value} {below : List Frame} {meth : Method} {c : Code} {Q : State → Prop} {A : Nat → Prop} {D : va_G} {G : G_} {ws0 : va_W}
def qM_expression_J290 (a : L_) (K : Int32 → S_ → Prop) (r : S_) (v6 : Int32) (u0 : Int32) (u1 : Int32) : Prop :=
  vp_in u1 (ln a 49) ∧ ∀ r23 : S_, r23 = sA r 49 (upd (ar r 49) u1.toNatClampNeg u0) → ∀ r24 : S_, r24 = sF r23 25 ((fi r23 25) + 1) → K v6 r24
set_option maxRecDepth 100000 in
set_option maxHeartbeats 4000000 in
theorem tM_expression_J290 (C : vx_C p s m args c prog_9_method_17_code 8 (Cond.code yM_expression prog_9_method_17_code 8 (some .int) :: wAll) "ClassInferenceModel" D vwCl (tysG G) nwAll A) (hA : A = va_A ws0 s.heap.size) (hlocks : meth.locks = false) (hr : meth.sig.returnType = (some .int)) {a : L_} {K : Int32 → S_ → Prop} (r : S_) (v6 : Int32) (u0 : Int32) (u1 : Int32) (h : qM_expression_J290 a K r v6 u0 u1) : vx_V p l e { frames := 1, cells := 0, slots := 0, locals := 22 } s m args below meth c A D vwCl 8 0 0 (MQ below (va_Qi (fun v w => ∃ r1, w = wo G a r1 ∧ K v r1) (vx_B D vwCl (tysG G) A) A) args s 0 0 A) (wo G a r) 290 [(0, .ref (ob G 7)), (6, .int v6)] [.int u0, .int u1, .ref (ad a 49)] := by
  unfold qM_expression_J290 at h
  obtain ⟨g22, h⟩ := h
  refine y_is C 49 (by decide) g22 dM_expression_290 (fun r23 er23 => ?_)
  have h := h r23 er23
  refine x_aload_n C dM_expression_291 rfl 0 rfl ?_
  refine x_dup C dM_expression_292 rfl ?_
  refine gf_7_15 C (List.mem_cons_of_mem _ wm731) dM_expression_293 ?_
  refine x_iconst (v := 1) C dM_expression_296 (by decide) ?_
  refine x_iadd C dM_expression_297 ?_
  refine pf_7_15 C (List.mem_cons_of_mem _ wm731) dM_expression_298 (fun r24 er24 => ?_)
  have h := h r24 er24
  refine x_iload C dM_expression_301 1 rfl ?_
  exact x_iret C hA hlocks hr ⟨r24, rfl, h⟩ dM_expression_303
def qM_expression_J270 (a : L_) (K : Int32 → S_ → Prop) (r : S_) (v6 : Int32) (v7 : Int32) : Prop :=
  ((v7 ≤ 25) → qM_expression_J290 a K r v6 v7 v6) ∧ ((¬ v7 ≤ 25) → qM_expression_J290 a K r v6 25 v6)
set_option maxRecDepth 100000 in
set_option maxHeartbeats 4000000 in
theorem tM_expression_J270 (C : vx_C p s m args c prog_9_method_17_code 8 (Cond.code yM_expression prog_9_method_17_code 8 (some .int) :: wAll) "ClassInferenceModel" D vwCl (tysG G) nwAll A) (hA : A = va_A ws0 s.heap.size) (hlocks : meth.locks = false) (hr : meth.sig.returnType = (some .int)) {a : L_} {K : Int32 → S_ → Prop} (r : S_) (v6 : Int32) (v7 : Int32) (h : qM_expression_J270 a K r v6 v7) : vx_V p l e { frames := 1, cells := 0, slots := 0, locals := 22 } s m args below meth c A D vwCl 8 0 0 (MQ below (va_Qi (fun v w => ∃ r1, w = wo G a r1 ∧ K v r1) (vx_B D vwCl (tysG G) A) A) args s 0 0 A) (wo G a r) 270 [(0, .ref (ob G 7)), (6, .int v6), (7, .int v7)] [] := by
  unfold qM_expression_J270 at h
  refine x_aload_n C dM_expression_270 rfl 0 rfl ?_
  refine gf_7_20 C (List.mem_cons_of_mem _ wm736) dM_expression_271 ?_
  refine x_iload C dM_expression_274 1 rfl ?_
  refine x_iload C dM_expression_276 2 rfl ?_
  refine x_bipush (v := 25) C dM_expression_278 (by decide) ?_
  refine x_icmp_le (tgt := 288) C dM_expression_280 (by decide) (fun g21 => ?_) (fun g21 => ?_)
  · have h := h.1 g21
    refine x_iload C dM_expression_288 2 rfl ?_
    refine x_sub [0, 1] rfl ?_
    exact tM_expression_J290 C hA hlocks hr r v6 v7 v6 h
  · have h := h.2 g21
    refine x_bipush (v := 25) C dM_expression_283 (by decide) ?_
    refine x_goto (tgt := 290) C dM_expression_285 (by decide) ?_
    refine x_sub [0, 1] rfl ?_
    exact tM_expression_J290 C hA hlocks hr r v6 25 v6 h
def qM_expression_J141 (a : L_) (K : Int32 → S_ → Prop) (r : S_) (v1 : Int32) (v2 : Int32) (v3 : Int32) (v4 : Int32) (u0 : Int32) : Prop :=
  ((¬ u0 = 0) → ((¬ (fi r 25) = 120) → vp_in (fi r 25) (ln a 45) ∧ ∀ r11 : S_, r11 = sA r 45 (upd (ar r 45) (fi r 25).toNatClampNeg v1) → vp_in (fi r 25) (ln a 46) ∧ ∀ r13 : S_, r13 = sA r11 46 (upd (ar r11 46) (fi r 25).toNatClampNeg v2) → vp_in (fi r 25) (ln a 47) ∧ ∀ r15 : S_, r15 = sA r13 47 (upd (ar r13 47) (fi r 25).toNatClampNeg v3) → vp_in (fi r 25) (ln a 48) ∧ ∀ r17 : S_, r17 = sA r15 48 (upd (ar r15 48) (fi r 25).toNatClampNeg v4) → ((¬ v1 = 1) → ((¬ v1 = 2) → ((¬ v1 = 3) → qM_expression_J270 a K r17 (fi r 25) 1) ∧ ((v1 = 3) → vp_in v3 (ln a 49) ∧ vp_in v4 (ln a 49) ∧ ∀ z27 : Int32, z27 = (1 + (ar r17 49 v3.toNatClampNeg)) + (ar r17 49 v4.toNatClampNeg) → qM_expression_J270 a K r17 (fi r 25) z27)) ∧ ((v1 = 2) → vp_in v2 (ln a 49) ∧ vp_in v3 (ln a 49) ∧ ∀ z30 : Int32, z30 = (1 + (ar r17 49 v2.toNatClampNeg)) + (ar r17 49 v3.toNatClampNeg) → qM_expression_J270 a K r17 (fi r 25) z30)) ∧ ((v1 = 1) → vp_in v3 (ln a 49) ∧ qM_expression_J270 a K r17 (fi r 25) (1 + (ar r17 49 v3.toNatClampNeg)))) ∧ (((fi r 25) = 120) → K (-3) r)) ∧ ((u0 = 0) → K (-1) r)
set_option maxRecDepth 100000 in
set_option maxHeartbeats 4000000 in
theorem tM_expression_J141 (C : vx_C p s m args c prog_9_method_17_code 8 (Cond.code yM_expression prog_9_method_17_code 8 (some .int) :: wAll) "ClassInferenceModel" D vwCl (tysG G) nwAll A) (hA : A = va_A ws0 s.heap.size) (hlocks : meth.locks = false) (hr : meth.sig.returnType = (some .int)) {a : L_} {K : Int32 → S_ → Prop} (r : S_) (v1 : Int32) (v2 : Int32) (v3 : Int32) (v4 : Int32) (u0 : Int32) (h : qM_expression_J141 a K r v1 v2 v3 v4 u0) : vx_V p l e { frames := 1, cells := 0, slots := 0, locals := 22 } s m args below meth c A D vwCl 8 0 0 (MQ below (va_Qi (fun v w => ∃ r1, w = wo G a r1 ∧ K v r1) (vx_B D vwCl (tysG G) A) A) args s 0 0 A) (wo G a r) 141 [(0, .ref (ob G 7)), (1, .int v1), (2, .int v2), (3, .int v3), (4, .int v4)] [.int u0] := by
  unfold qM_expression_J141 at h
  refine x_istore C [(5, .int u0), (0, .ref (ob G 7)), (1, .int v1), (2, .int v2), (3, .int v3), (4, .int v4)] dM_expression_141 (by decide) rfl ?_
  refine x_iload C dM_expression_143 0 rfl ?_
  refine x_if_ne (tgt := 150) C dM_expression_145 (by decide) (fun g8 => ?_) (fun g8 => ?_)
  · have h := h.1 g8
    refine x_aload_n C dM_expression_150 rfl 1 rfl ?_
    refine gf_7_15 C (List.mem_cons_of_mem _ wm731) dM_expression_151 ?_
    refine x_bipush (v := 120) C dM_expression_154 (by decide) ?_
    refine x_icmp_ne (tgt := 162) C dM_expression_156 (by decide) (fun g9 => ?_) (fun g9 => ?_)
    · have h := h.1 g9
      refine x_aload_n C dM_expression_162 rfl 1 rfl ?_
      refine gf_7_15 C (List.mem_cons_of_mem _ wm731) dM_expression_163 ?_
      refine x_istore C [(6, .int (fi r 25)), (5, .int u0), (0, .ref (ob G 7)), (1, .int v1), (2, .int v2), (3, .int v3), (4, .int v4)] dM_expression_166 (by decide) rfl ?_
      refine x_aload_n C dM_expression_168 rfl 2 rfl ?_
      refine gf_7_16 C (List.mem_cons_of_mem _ wm732) dM_expression_169 ?_
      refine x_iload C dM_expression_172 0 rfl ?_
      refine x_iload_n C dM_expression_174 rfl 3 rfl ?_
      obtain ⟨g10, h⟩ := h
      refine y_is C 45 (by decide) g10 dM_expression_175 (fun r11 er11 => ?_)
      have h := h r11 er11
      refine x_aload_n C dM_expression_176 rfl 2 rfl ?_
      refine gf_7_17 C (List.mem_cons_of_mem _ wm733) dM_expression_177 ?_
      refine x_iload C dM_expression_180 0 rfl ?_
      refine x_iload_n C dM_expression_182 rfl 4 rfl ?_
      obtain ⟨g12, h⟩ := h
      refine y_is C 46 (by decide) g12 dM_expression_183 (fun r13 er13 => ?_)
      have h := h r13 er13
      refine x_aload_n C dM_expression_184 rfl 2 rfl ?_
      refine gf_7_18 C (List.mem_cons_of_mem _ wm734) dM_expression_185 ?_
      refine x_iload C dM_expression_188 0 rfl ?_
      refine x_iload_n C dM_expression_190 rfl 5 rfl ?_
      obtain ⟨g14, h⟩ := h
      refine y_is C 47 (by decide) g14 dM_expression_191 (fun r15 er15 => ?_)
      have h := h r15 er15
      refine x_aload_n C dM_expression_192 rfl 2 rfl ?_
      refine gf_7_19 C (List.mem_cons_of_mem _ wm735) dM_expression_193 ?_
      refine x_iload C dM_expression_196 0 rfl ?_
      refine x_iload C dM_expression_198 6 rfl ?_
      obtain ⟨g16, h⟩ := h
      refine y_is C 48 (by decide) g16 dM_expression_200 (fun r17 er17 => ?_)
      have h := h r17 er17
      refine x_iconst (v := 1) C dM_expression_201 (by decide) ?_
      refine x_istore C [(7, .int 1), (6, .int (fi r 25)), (5, .int u0), (0, .ref (ob G 7)), (1, .int v1), (2, .int v2), (3, .int v3), (4, .int v4)] dM_expression_202 (by decide) rfl ?_
      refine x_iload_n C dM_expression_204 rfl 4 rfl ?_
      refine x_iconst (v := 1) C dM_expression_205 (by decide) ?_
      refine x_icmp_ne (tgt := 222) C dM_expression_206 (by decide) (fun g18 => ?_) (fun g18 => ?_)
      · have h := h.1 g18
        refine x_iload_n C dM_expression_222 rfl 4 rfl ?_
        refine x_iconst (v := 2) C dM_expression_223 (by decide) ?_
        refine x_icmp_ne (tgt := 247) C dM_expression_224 (by decide) (fun g19 => ?_) (fun g19 => ?_)
        · have h := h.1 g19
          refine x_iload_n C dM_expression_247 rfl 4 rfl ?_
          refine x_iconst (v := 3) C dM_expression_248 (by decide) ?_
          refine x_icmp_ne (tgt := 270) C dM_expression_249 (by decide) (fun g20 => ?_) (fun g20 => ?_)
          · have h := h.1 g20
            refine x_sub [3, 1, 0] rfl ?_
            exact tM_expression_J270 C hA hlocks hr r17 (fi r 25) 1 h
          · have h := h.2 g20
            refine x_iconst (v := 1) C dM_expression_252 (by decide) ?_
            refine x_aload_n C dM_expression_253 rfl 3 rfl ?_
            refine gf_7_20 C (List.mem_cons_of_mem _ wm736) dM_expression_254 ?_
            refine x_iload_n C dM_expression_257 rfl 6 rfl ?_
            obtain ⟨g25, h⟩ := h
            refine y_ia C 49 (by decide) g25 dM_expression_258 ?_
            refine x_iadd C dM_expression_259 ?_
            refine x_aload_n C dM_expression_260 rfl 3 rfl ?_
            refine gf_7_20 C (List.mem_cons_of_mem _ wm736) dM_expression_261 ?_
            refine x_iload C dM_expression_264 7 rfl ?_
            obtain ⟨g26, h⟩ := h
            refine y_ia C 49 (by decide) g26 dM_expression_266 ?_
            refine x_iadd C dM_expression_267 ?_
            refine x_topi (fun z27 ez27 => ?_)
            have h := h z27 ez27
            refine x_istore C [(7, .int z27), (6, .int (fi r 25)), (5, .int u0), (0, .ref (ob G 7)), (1, .int v1), (2, .int v2), (3, .int v3), (4, .int v4)] dM_expression_268 (by decide) rfl ?_
            refine x_sub [3, 1, 0] rfl ?_
            exact tM_expression_J270 C hA hlocks hr r17 (fi r 25) z27 h
        · have h := h.2 g19
          refine x_iconst (v := 1) C dM_expression_227 (by decide) ?_
          refine x_aload_n C dM_expression_228 rfl 3 rfl ?_
          refine gf_7_20 C (List.mem_cons_of_mem _ wm736) dM_expression_229 ?_
          refine x_iload_n C dM_expression_232 rfl 5 rfl ?_
          obtain ⟨g28, h⟩ := h
          refine y_ia C 49 (by decide) g28 dM_expression_233 ?_
          refine x_iadd C dM_expression_234 ?_
          refine x_aload_n C dM_expression_235 rfl 3 rfl ?_
          refine gf_7_20 C (List.mem_cons_of_mem _ wm736) dM_expression_236 ?_
          refine x_iload_n C dM_expression_239 rfl 6 rfl ?_
          obtain ⟨g29, h⟩ := h
          refine y_ia C 49 (by decide) g29 dM_expression_240 ?_
          refine x_iadd C dM_expression_241 ?_
          refine x_topi (fun z30 ez30 => ?_)
          have h := h z30 ez30
          refine x_istore C [(7, .int z30), (6, .int (fi r 25)), (5, .int u0), (0, .ref (ob G 7)), (1, .int v1), (2, .int v2), (3, .int v3), (4, .int v4)] dM_expression_242 (by decide) rfl ?_
          refine x_goto (tgt := 270) C dM_expression_244 (by decide) ?_
          refine x_sub [3, 1, 0] rfl ?_
          exact tM_expression_J270 C hA hlocks hr r17 (fi r 25) z30 h
      · have h := h.2 g18
        refine x_iconst (v := 1) C dM_expression_209 (by decide) ?_
        refine x_aload_n C dM_expression_210 rfl 3 rfl ?_
        refine gf_7_20 C (List.mem_cons_of_mem _ wm736) dM_expression_211 ?_
        refine x_iload_n C dM_expression_214 rfl 6 rfl ?_
        obtain ⟨g31, h⟩ := h
        refine y_ia C 49 (by decide) g31 dM_expression_215 ?_
        refine x_iadd C dM_expression_216 ?_
        refine x_istore C [(7, .int (1 + (ar r17 49 v3.toNatClampNeg))), (6, .int (fi r 25)), (5, .int u0), (0, .ref (ob G 7)), (1, .int v1), (2, .int v2), (3, .int v3), (4, .int v4)] dM_expression_217 (by decide) rfl ?_
        refine x_goto (tgt := 270) C dM_expression_219 (by decide) ?_
        refine x_sub [3, 1, 0] rfl ?_
        exact tM_expression_J270 C hA hlocks hr r17 (fi r 25) (1 + (ar r17 49 v3.toNatClampNeg)) h
    · have h := h.2 g9
      refine x_bipush (v := (-3)) C dM_expression_159 (by decide) ?_
      exact x_iret C hA hlocks hr ⟨r, rfl, h⟩ dM_expression_161
  · have h := h.2 g8
    refine x_iconst (v := (-1)) C dM_expression_148 (by decide) ?_
    exact x_iret C hA hlocks hr ⟨r, rfl, h⟩ dM_expression_149
def qM_expression_J140 (a : L_) (K : Int32 → S_ → Prop) (r : S_) (v1 : Int32) (v2 : Int32) (v3 : Int32) (v4 : Int32) : Prop :=
  qM_expression_J141 a K r v1 v2 v3 v4 0
set_option maxRecDepth 100000 in
set_option maxHeartbeats 4000000 in
theorem tM_expression_J140 (C : vx_C p s m args c prog_9_method_17_code 8 (Cond.code yM_expression prog_9_method_17_code 8 (some .int) :: wAll) "ClassInferenceModel" D vwCl (tysG G) nwAll A) (hA : A = va_A ws0 s.heap.size) (hlocks : meth.locks = false) (hr : meth.sig.returnType = (some .int)) {a : L_} {K : Int32 → S_ → Prop} (r : S_) (v1 : Int32) (v2 : Int32) (v3 : Int32) (v4 : Int32) (h : qM_expression_J140 a K r v1 v2 v3 v4) : vx_V p l e { frames := 1, cells := 0, slots := 0, locals := 22 } s m args below meth c A D vwCl 8 0 0 (MQ below (va_Qi (fun v w => ∃ r1, w = wo G a r1 ∧ K v r1) (vx_B D vwCl (tysG G) A) A) args s 0 0 A) (wo G a r) 140 [(0, .ref (ob G 7)), (1, .int v1), (2, .int v2), (3, .int v3), (4, .int v4)] [] := by
  unfold qM_expression_J140 at h
  refine x_iconst (v := 0) C dM_expression_140 (by decide) ?_
  refine x_sub [0, 1, 2, 3, 4] rfl ?_
  exact tM_expression_J141 C hA hlocks hr r v1 v2 v3 v4 0 h
def qM_expression_J136 (a : L_) (K : Int32 → S_ → Prop) (r : S_) (v1 : Int32) (v2 : Int32) (v3 : Int32) (v4 : Int32) : Prop :=
  qM_expression_J141 a K r v1 v2 v3 v4 1
set_option maxRecDepth 100000 in
set_option maxHeartbeats 4000000 in
theorem tM_expression_J136 (C : vx_C p s m args c prog_9_method_17_code 8 (Cond.code yM_expression prog_9_method_17_code 8 (some .int) :: wAll) "ClassInferenceModel" D vwCl (tysG G) nwAll A) (hA : A = va_A ws0 s.heap.size) (hlocks : meth.locks = false) (hr : meth.sig.returnType = (some .int)) {a : L_} {K : Int32 → S_ → Prop} (r : S_) (v1 : Int32) (v2 : Int32) (v3 : Int32) (v4 : Int32) (h : qM_expression_J136 a K r v1 v2 v3 v4) : vx_V p l e { frames := 1, cells := 0, slots := 0, locals := 22 } s m args below meth c A D vwCl 8 0 0 (MQ below (va_Qi (fun v w => ∃ r1, w = wo G a r1 ∧ K v r1) (vx_B D vwCl (tysG G) A) A) args s 0 0 A) (wo G a r) 136 [(0, .ref (ob G 7)), (1, .int v1), (2, .int v2), (3, .int v3), (4, .int v4)] [] := by
  unfold qM_expression_J136 at h
  refine x_iconst (v := 1) C dM_expression_136 (by decide) ?_
  refine x_goto (tgt := 141) C dM_expression_137 (by decide) ?_
  refine x_sub [0, 1, 2, 3, 4] rfl ?_
  exact tM_expression_J141 C hA hlocks hr r v1 v2 v3 v4 1 h
def qM_expression_J117 (a : L_) (K : Int32 → S_ → Prop) (r : S_) (v1 : Int32) (v2 : Int32) (v3 : Int32) (v4 : Int32) : Prop :=
  ((¬ v1 = 5) → qM_expression_J140 a K r v1 v2 v3 v4) ∧ ((v1 = 5) → qM_in a r (fun z32 => zb z32 → ((z32 = 0) → qM_expression_J140 a K r v1 v2 v3 v4) ∧ ((¬ z32 = 0) → qM_expression_J136 a K r v1 v2 v3 v4)) v2 0 ((fi r 22) - 1))
set_option maxRecDepth 100000 in
set_option maxHeartbeats 4000000 in
theorem tM_expression_J117 (C : vx_C p s m args c prog_9_method_17_code 8 (Cond.code yM_expression prog_9_method_17_code 8 (some .int) :: wAll) "ClassInferenceModel" D vwCl (tysG G) nwAll A) (hA : A = va_A ws0 s.heap.size) (hlocks : meth.locks = false) (hr : meth.sig.returnType = (some .int)) {a : L_} {K : Int32 → S_ → Prop} (r : S_) (v1 : Int32) (v2 : Int32) (v3 : Int32) (v4 : Int32) (h : qM_expression_J117 a K r v1 v2 v3 v4) : vx_V p l e { frames := 1, cells := 0, slots := 0, locals := 22 } s m args below meth c A D vwCl 8 0 0 (MQ below (va_Qi (fun v w => ∃ r1, w = wo G a r1 ∧ K v r1) (vx_B D vwCl (tysG G) A) A) args s 0 0 A) (wo G a r) 117 [(0, .ref (ob G 7)), (1, .int v1), (2, .int v2), (3, .int v3), (4, .int v4)] [] := by
  unfold qM_expression_J117 at h
  refine x_iload_n C dM_expression_117 rfl 1 rfl ?_
  refine x_iconst (v := 5) C dM_expression_118 (by decide) ?_
  refine x_icmp_ne (tgt := 140) C dM_expression_119 (by decide) (fun g7 => ?_) (fun g7 => ?_)
  · have h := h.1 g7
    refine x_sub [0, 1, 2, 3, 4] rfl ?_
    exact tM_expression_J140 C hA hlocks hr r v1 v2 v3 v4 h
  · have h := h.2 g7
    refine x_iload_n C dM_expression_122 rfl 2 rfl ?_
    refine x_iconst (v := 0) C dM_expression_123 (by decide) ?_
    refine x_aload_n C dM_expression_124 rfl 0 rfl ?_
    refine gf_7_3 C (List.mem_cons_of_mem _ wm719) dM_expression_125 ?_
    refine x_iconst (v := 1) C dM_expression_128 (by decide) ?_
    refine x_isub C dM_expression_129 ?_
    refine kM_in C wm944 ⟨Nat.le_of_ble_eq_true rfl, Nat.le_of_ble_eq_true rfl⟩ (Nat.le_of_ble_eq_true rfl) dM_expression_130 ⟨Nat.zero_le _, Nat.zero_le _⟩ h (fun z32 hzz32 h => ?_)
    have h := h hzz32
    refine x_if_eq (tgt := 140) C dM_expression_133 (by decide) (fun g33 => ?_) (fun g33 => ?_)
    · have h := h.1 g33
      refine x_sub [0, 1, 2, 3, 4] rfl ?_
      exact tM_expression_J140 C hA hlocks hr r v1 v2 v3 v4 h
    · have h := h.2 g33
      refine x_sub [0, 1, 2, 3, 4] rfl ?_
      exact tM_expression_J136 C hA hlocks hr r v1 v2 v3 v4 h
def qM_expression_J95 (a : L_) (K : Int32 → S_ → Prop) (r : S_) (v1 : Int32) (v2 : Int32) (v3 : Int32) (v4 : Int32) : Prop :=
  ((¬ v1 = 4) → qM_expression_J117 a K r v1 v2 v3 v4) ∧ ((v1 = 4) → qM_isClass a r (fun z34 => zb z34 → ((z34 = 0) → qM_expression_J117 a K r v1 v2 v3 v4) ∧ ((¬ z34 = 0) → vp_in v2 (ln a 42) ∧ ((0 ≤ (ar r 42 v2.toNatClampNeg)) → qM_expression_J136 a K r v1 v2 v3 v4) ∧ ((¬ 0 ≤ (ar r 42 v2.toNatClampNeg)) → qM_expression_J117 a K r v1 v2 v3 v4))) v2)
set_option maxRecDepth 100000 in
set_option maxHeartbeats 4000000 in
theorem tM_expression_J95 (C : vx_C p s m args c prog_9_method_17_code 8 (Cond.code yM_expression prog_9_method_17_code 8 (some .int) :: wAll) "ClassInferenceModel" D vwCl (tysG G) nwAll A) (hA : A = va_A ws0 s.heap.size) (hlocks : meth.locks = false) (hr : meth.sig.returnType = (some .int)) {a : L_} {K : Int32 → S_ → Prop} (r : S_) (v1 : Int32) (v2 : Int32) (v3 : Int32) (v4 : Int32) (h : qM_expression_J95 a K r v1 v2 v3 v4) : vx_V p l e { frames := 1, cells := 0, slots := 0, locals := 22 } s m args below meth c A D vwCl 8 0 0 (MQ below (va_Qi (fun v w => ∃ r1, w = wo G a r1 ∧ K v r1) (vx_B D vwCl (tysG G) A) A) args s 0 0 A) (wo G a r) 95 [(0, .ref (ob G 7)), (1, .int v1), (2, .int v2), (3, .int v3), (4, .int v4)] [] := by
  unfold qM_expression_J95 at h
  refine x_iload_n C dM_expression_95 rfl 1 rfl ?_
  refine x_iconst (v := 4) C dM_expression_96 (by decide) ?_
  refine x_icmp_ne (tgt := 117) C dM_expression_97 (by decide) (fun g6 => ?_) (fun g6 => ?_)
  · have h := h.1 g6
    refine x_sub [0, 1, 2, 3, 4] rfl ?_
    exact tM_expression_J117 C hA hlocks hr r v1 v2 v3 v4 h
  · have h := h.2 g6
    refine x_aload_n C dM_expression_100 rfl 0 rfl ?_
    refine x_iload_n C dM_expression_101 rfl 2 rfl ?_
    refine kM_isClass C wm963 ⟨Nat.le_of_ble_eq_true rfl, Nat.le_of_ble_eq_true rfl⟩ (Nat.le_of_ble_eq_true rfl) dM_expression_102 ⟨Nat.zero_le _, Nat.zero_le _⟩ h (fun z34 hzz34 h => ?_)
    have h := h hzz34
    refine x_if_eq (tgt := 117) C dM_expression_105 (by decide) (fun g35 => ?_) (fun g35 => ?_)
    · have h := h.1 g35
      refine x_sub [0, 1, 2, 3, 4] rfl ?_
      exact tM_expression_J117 C hA hlocks hr r v1 v2 v3 v4 h
    · have h := h.2 g35
      refine x_aload_n C dM_expression_108 rfl 0 rfl ?_
      refine gf_7_10 C (List.mem_cons_of_mem _ wm726) dM_expression_109 ?_
      refine x_iload_n C dM_expression_112 rfl 2 rfl ?_
      obtain ⟨g36, h⟩ := h
      refine y_ia C 42 (by decide) g36 dM_expression_113 ?_
      refine x_if_ge (tgt := 136) C dM_expression_114 (by decide) (fun g37 => ?_) (fun g37 => ?_)
      · have h := h.1 g37
        refine x_sub [0, 1, 2, 3, 4] rfl ?_
        exact tM_expression_J136 C hA hlocks hr r v1 v2 v3 v4 h
      · have h := h.2 g37
        refine x_sub [0, 1, 2, 3, 4] rfl ?_
        exact tM_expression_J117 C hA hlocks hr r v1 v2 v3 v4 h
def qM_expression_J63 (a : L_) (K : Int32 → S_ → Prop) (r : S_) (v1 : Int32) (v2 : Int32) (v3 : Int32) (v4 : Int32) : Prop :=
  ((¬ v1 = 3) → qM_expression_J95 a K r v1 v2 v3 v4) ∧ ((v1 = 3) → qM_in a r (fun z38 => zb z38 → ((z38 = 0) → qM_expression_J95 a K r v1 v2 v3 v4) ∧ ((¬ z38 = 0) → qM_isExpression a r (fun z40 => zb z40 → ((z40 = 0) → qM_expression_J95 a K r v1 v2 v3 v4) ∧ ((¬ z40 = 0) → qM_isExpression a r (fun z42 => zb z42 → ((¬ z42 = 0) → qM_expression_J136 a K r v1 v2 v3 v4) ∧ ((z42 = 0) → qM_expression_J95 a K r v1 v2 v3 v4)) v4)) v3)) v2 0 15)
set_option maxRecDepth 100000 in
set_option maxHeartbeats 4000000 in
theorem tM_expression_J63 (C : vx_C p s m args c prog_9_method_17_code 8 (Cond.code yM_expression prog_9_method_17_code 8 (some .int) :: wAll) "ClassInferenceModel" D vwCl (tysG G) nwAll A) (hA : A = va_A ws0 s.heap.size) (hlocks : meth.locks = false) (hr : meth.sig.returnType = (some .int)) {a : L_} {K : Int32 → S_ → Prop} (r : S_) (v1 : Int32) (v2 : Int32) (v3 : Int32) (v4 : Int32) (h : qM_expression_J63 a K r v1 v2 v3 v4) : vx_V p l e { frames := 1, cells := 0, slots := 0, locals := 22 } s m args below meth c A D vwCl 8 0 0 (MQ below (va_Qi (fun v w => ∃ r1, w = wo G a r1 ∧ K v r1) (vx_B D vwCl (tysG G) A) A) args s 0 0 A) (wo G a r) 63 [(0, .ref (ob G 7)), (1, .int v1), (2, .int v2), (3, .int v3), (4, .int v4)] [] := by
  unfold qM_expression_J63 at h
  refine x_iload_n C dM_expression_63 rfl 1 rfl ?_
  refine x_iconst (v := 3) C dM_expression_64 (by decide) ?_
  refine x_icmp_ne (tgt := 95) C dM_expression_65 (by decide) (fun g5 => ?_) (fun g5 => ?_)
  · have h := h.1 g5
    refine x_sub [0, 1, 2, 3, 4] rfl ?_
    exact tM_expression_J95 C hA hlocks hr r v1 v2 v3 v4 h
  · have h := h.2 g5
    refine x_iload_n C dM_expression_68 rfl 2 rfl ?_
    refine x_iconst (v := 0) C dM_expression_69 (by decide) ?_
    refine x_bipush (v := 15) C dM_expression_70 (by decide) ?_
    refine kM_in C wm944 ⟨Nat.le_of_ble_eq_true rfl, Nat.le_of_ble_eq_true rfl⟩ (Nat.le_of_ble_eq_true rfl) dM_expression_72 ⟨Nat.zero_le _, Nat.zero_le _⟩ h (fun z38 hzz38 h => ?_)
    have h := h hzz38
    refine x_if_eq (tgt := 95) C dM_expression_75 (by decide) (fun g39 => ?_) (fun g39 => ?_)
    · have h := h.1 g39
      refine x_sub [0, 1, 2, 3, 4] rfl ?_
      exact tM_expression_J95 C hA hlocks hr r v1 v2 v3 v4 h
    · have h := h.2 g39
      refine x_aload_n C dM_expression_78 rfl 0 rfl ?_
      refine x_iload_n C dM_expression_79 rfl 3 rfl ?_
      refine kM_isExpression C wm995 ⟨Nat.le_of_ble_eq_true rfl, Nat.le_of_ble_eq_true rfl⟩ (Nat.le_of_ble_eq_true rfl) dM_expression_80 ⟨Nat.zero_le _, Nat.zero_le _⟩ h (fun z40 hzz40 h => ?_)
      have h := h hzz40
      refine x_if_eq (tgt := 95) C dM_expression_83 (by decide) (fun g41 => ?_) (fun g41 => ?_)
      · have h := h.1 g41
        refine x_sub [0, 1, 2, 3, 4] rfl ?_
        exact tM_expression_J95 C hA hlocks hr r v1 v2 v3 v4 h
      · have h := h.2 g41
        refine x_aload_n C dM_expression_86 rfl 0 rfl ?_
        refine x_iload C dM_expression_87 4 rfl ?_
        refine kM_isExpression C wm995 ⟨Nat.le_of_ble_eq_true rfl, Nat.le_of_ble_eq_true rfl⟩ (Nat.le_of_ble_eq_true rfl) dM_expression_89 ⟨Nat.zero_le _, Nat.zero_le _⟩ h (fun z42 hzz42 h => ?_)
        have h := h hzz42
        refine x_if_ne (tgt := 136) C dM_expression_92 (by decide) (fun g43 => ?_) (fun g43 => ?_)
        · have h := h.1 g43
          refine x_sub [0, 1, 2, 3, 4] rfl ?_
          exact tM_expression_J136 C hA hlocks hr r v1 v2 v3 v4 h
        · have h := h.2 g43
          refine x_sub [0, 1, 2, 3, 4] rfl ?_
          exact tM_expression_J95 C hA hlocks hr r v1 v2 v3 v4 h
def qM_expression_J42 (a : L_) (K : Int32 → S_ → Prop) (r : S_) (v1 : Int32) (v2 : Int32) (v3 : Int32) (v4 : Int32) : Prop :=
  ((¬ v1 = 2) → qM_expression_J63 a K r v1 v2 v3 v4) ∧ ((v1 = 2) → qM_isExpression a r (fun z44 => zb z44 → ((z44 = 0) → qM_expression_J63 a K r v1 v2 v3 v4) ∧ ((¬ z44 = 0) → qM_isExpression a r (fun z46 => zb z46 → ((¬ z46 = 0) → qM_expression_J136 a K r v1 v2 v3 v4) ∧ ((z46 = 0) → qM_expression_J63 a K r v1 v2 v3 v4)) v3)) v2)
set_option maxRecDepth 100000 in
set_option maxHeartbeats 4000000 in
theorem tM_expression_J42 (C : vx_C p s m args c prog_9_method_17_code 8 (Cond.code yM_expression prog_9_method_17_code 8 (some .int) :: wAll) "ClassInferenceModel" D vwCl (tysG G) nwAll A) (hA : A = va_A ws0 s.heap.size) (hlocks : meth.locks = false) (hr : meth.sig.returnType = (some .int)) {a : L_} {K : Int32 → S_ → Prop} (r : S_) (v1 : Int32) (v2 : Int32) (v3 : Int32) (v4 : Int32) (h : qM_expression_J42 a K r v1 v2 v3 v4) : vx_V p l e { frames := 1, cells := 0, slots := 0, locals := 22 } s m args below meth c A D vwCl 8 0 0 (MQ below (va_Qi (fun v w => ∃ r1, w = wo G a r1 ∧ K v r1) (vx_B D vwCl (tysG G) A) A) args s 0 0 A) (wo G a r) 42 [(0, .ref (ob G 7)), (1, .int v1), (2, .int v2), (3, .int v3), (4, .int v4)] [] := by
  unfold qM_expression_J42 at h
  refine x_iload_n C dM_expression_42 rfl 1 rfl ?_
  refine x_iconst (v := 2) C dM_expression_43 (by decide) ?_
  refine x_icmp_ne (tgt := 63) C dM_expression_44 (by decide) (fun g4 => ?_) (fun g4 => ?_)
  · have h := h.1 g4
    refine x_sub [0, 1, 2, 3, 4] rfl ?_
    exact tM_expression_J63 C hA hlocks hr r v1 v2 v3 v4 h
  · have h := h.2 g4
    refine x_aload_n C dM_expression_47 rfl 0 rfl ?_
    refine x_iload_n C dM_expression_48 rfl 2 rfl ?_
    refine kM_isExpression C wm995 ⟨Nat.le_of_ble_eq_true rfl, Nat.le_of_ble_eq_true rfl⟩ (Nat.le_of_ble_eq_true rfl) dM_expression_49 ⟨Nat.zero_le _, Nat.zero_le _⟩ h (fun z44 hzz44 h => ?_)
    have h := h hzz44
    refine x_if_eq (tgt := 63) C dM_expression_52 (by decide) (fun g45 => ?_) (fun g45 => ?_)
    · have h := h.1 g45
      refine x_sub [0, 1, 2, 3, 4] rfl ?_
      exact tM_expression_J63 C hA hlocks hr r v1 v2 v3 v4 h
    · have h := h.2 g45
      refine x_aload_n C dM_expression_55 rfl 0 rfl ?_
      refine x_iload_n C dM_expression_56 rfl 3 rfl ?_
      refine kM_isExpression C wm995 ⟨Nat.le_of_ble_eq_true rfl, Nat.le_of_ble_eq_true rfl⟩ (Nat.le_of_ble_eq_true rfl) dM_expression_57 ⟨Nat.zero_le _, Nat.zero_le _⟩ h (fun z46 hzz46 h => ?_)
      have h := h hzz46
      refine x_if_ne (tgt := 136) C dM_expression_60 (by decide) (fun g47 => ?_) (fun g47 => ?_)
      · have h := h.1 g47
        refine x_sub [0, 1, 2, 3, 4] rfl ?_
        exact tM_expression_J136 C hA hlocks hr r v1 v2 v3 v4 h
      · have h := h.2 g47
        refine x_sub [0, 1, 2, 3, 4] rfl ?_
        exact tM_expression_J63 C hA hlocks hr r v1 v2 v3 v4 h
def qM_expression_J19 (a : L_) (K : Int32 → S_ → Prop) (r : S_) (v1 : Int32) (v2 : Int32) (v3 : Int32) (v4 : Int32) : Prop :=
  ((¬ v1 = 1) → qM_expression_J42 a K r v1 v2 v3 v4) ∧ ((v1 = 1) → qM_in a r (fun z48 => zb z48 → ((z48 = 0) → qM_expression_J42 a K r v1 v2 v3 v4) ∧ ((¬ z48 = 0) → qM_isExpression a r (fun z50 => zb z50 → ((¬ z50 = 0) → qM_expression_J136 a K r v1 v2 v3 v4) ∧ ((z50 = 0) → qM_expression_J42 a K r v1 v2 v3 v4)) v3)) v2 0 15)
set_option maxRecDepth 100000 in
set_option maxHeartbeats 4000000 in
theorem tM_expression_J19 (C : vx_C p s m args c prog_9_method_17_code 8 (Cond.code yM_expression prog_9_method_17_code 8 (some .int) :: wAll) "ClassInferenceModel" D vwCl (tysG G) nwAll A) (hA : A = va_A ws0 s.heap.size) (hlocks : meth.locks = false) (hr : meth.sig.returnType = (some .int)) {a : L_} {K : Int32 → S_ → Prop} (r : S_) (v1 : Int32) (v2 : Int32) (v3 : Int32) (v4 : Int32) (h : qM_expression_J19 a K r v1 v2 v3 v4) : vx_V p l e { frames := 1, cells := 0, slots := 0, locals := 22 } s m args below meth c A D vwCl 8 0 0 (MQ below (va_Qi (fun v w => ∃ r1, w = wo G a r1 ∧ K v r1) (vx_B D vwCl (tysG G) A) A) args s 0 0 A) (wo G a r) 19 [(0, .ref (ob G 7)), (1, .int v1), (2, .int v2), (3, .int v3), (4, .int v4)] [] := by
  unfold qM_expression_J19 at h
  refine x_iload_n C dM_expression_19 rfl 1 rfl ?_
  refine x_iconst (v := 1) C dM_expression_20 (by decide) ?_
  refine x_icmp_ne (tgt := 42) C dM_expression_21 (by decide) (fun g3 => ?_) (fun g3 => ?_)
  · have h := h.1 g3
    refine x_sub [0, 1, 2, 3, 4] rfl ?_
    exact tM_expression_J42 C hA hlocks hr r v1 v2 v3 v4 h
  · have h := h.2 g3
    refine x_iload_n C dM_expression_24 rfl 2 rfl ?_
    refine x_iconst (v := 0) C dM_expression_25 (by decide) ?_
    refine x_bipush (v := 15) C dM_expression_26 (by decide) ?_
    refine kM_in C wm944 ⟨Nat.le_of_ble_eq_true rfl, Nat.le_of_ble_eq_true rfl⟩ (Nat.le_of_ble_eq_true rfl) dM_expression_28 ⟨Nat.zero_le _, Nat.zero_le _⟩ h (fun z48 hzz48 h => ?_)
    have h := h hzz48
    refine x_if_eq (tgt := 42) C dM_expression_31 (by decide) (fun g49 => ?_) (fun g49 => ?_)
    · have h := h.1 g49
      refine x_sub [0, 1, 2, 3, 4] rfl ?_
      exact tM_expression_J42 C hA hlocks hr r v1 v2 v3 v4 h
    · have h := h.2 g49
      refine x_aload_n C dM_expression_34 rfl 0 rfl ?_
      refine x_iload_n C dM_expression_35 rfl 3 rfl ?_
      refine kM_isExpression C wm995 ⟨Nat.le_of_ble_eq_true rfl, Nat.le_of_ble_eq_true rfl⟩ (Nat.le_of_ble_eq_true rfl) dM_expression_36 ⟨Nat.zero_le _, Nat.zero_le _⟩ h (fun z50 hzz50 h => ?_)
      have h := h hzz50
      refine x_if_ne (tgt := 136) C dM_expression_39 (by decide) (fun g51 => ?_) (fun g51 => ?_)
      · have h := h.1 g51
        refine x_sub [0, 1, 2, 3, 4] rfl ?_
        exact tM_expression_J136 C hA hlocks hr r v1 v2 v3 v4 h
      · have h := h.2 g51
        refine x_sub [0, 1, 2, 3, 4] rfl ?_
        exact tM_expression_J42 C hA hlocks hr r v1 v2 v3 v4 h
def qM_expression (a : L_) (K : Int32 → S_ → Prop) (r : S_) (p0 : Int32) (p1 : Int32) (p2 : Int32) (p3 : Int32) : Prop :=
  ∀ r1 : S_, r1 = sF r 20 0 → ((¬ p0 = 0) → qM_expression_J19 a K r1 p0 p1 p2 p3) ∧ ((p0 = 0) → qM_in a r1 (fun z52 => zb z52 → ((¬ z52 = 0) → qM_expression_J136 a K r1 p0 p1 p2 p3) ∧ ((z52 = 0) → qM_expression_J19 a K r1 p0 p1 p2 p3)) p1 0 15)
set_option maxRecDepth 100000 in
set_option maxHeartbeats 4000000 in
theorem cM_expression {a : L_} {r : S_} {K : Int32 → S_ → Prop} (p0 : Int32) (p1 : Int32) (p2 : Int32) (p3 : Int32) (h : qM_expression a K r p0 p1 p2 p3) : vx_Mi l yM_expression (Cond.code yM_expression prog_9_method_17_code 8 (some .int) :: wAll) { frames := 1, cells := 0, slots := 0, locals := 22 } D vwCl (tysG G) nwAll (wo G a r) [.ref (ob G 7), .int p0, .int p1, .int p2, .int p3] 0 0 (fun v w => ∃ r1, w = wo G a r1 ∧ K v r1) := by
  unfold qM_expression at h
  refine x_meti (cc := prog_9_method_17_code) (maxL := 8) (ret := (some .int)) (lv0 := [(0, .ref (ob G 7)), (1, .int p0), (2, .int p1), (3, .int p2), (4, .int p3)]) (by decide) rfl (Nat.le_of_ble_eq_true rfl) rfl ?_
  intro p e s m args below meth c A C hA hlocks hr
  refine x_aload_n C dM_expression_0 rfl 0 rfl ?_
  refine x_iconst (v := 0) C dM_expression_1 (by decide) ?_
  refine pf_7_0 C (List.mem_cons_of_mem _ wm716) dM_expression_2 (fun r1 er1 => ?_)
  have h := h r1 er1
  refine x_iload_n C dM_expression_5 rfl 1 rfl ?_
  refine x_if_ne (tgt := 19) C dM_expression_6 (by decide) (fun g2 => ?_) (fun g2 => ?_)
  · have h := h.1 g2
    refine x_sub [0, 1, 2, 3, 4] rfl ?_
    exact tM_expression_J19 C hA hlocks hr r1 p0 p1 p2 p3 h
  · have h := h.2 g2
    refine x_iload_n C dM_expression_9 rfl 2 rfl ?_
    refine x_iconst (v := 0) C dM_expression_10 (by decide) ?_
    refine x_bipush (v := 15) C dM_expression_11 (by decide) ?_
    refine kM_in C wm944 ⟨Nat.le_of_ble_eq_true rfl, Nat.le_of_ble_eq_true rfl⟩ (Nat.le_of_ble_eq_true rfl) dM_expression_13 ⟨Nat.zero_le _, Nat.zero_le _⟩ h (fun z52 hzz52 h => ?_)
    have h := h hzz52
    refine x_if_ne (tgt := 136) C dM_expression_16 (by decide) (fun g53 => ?_) (fun g53 => ?_)
    · have h := h.1 g53
      refine x_sub [0, 1, 2, 3, 4] rfl ?_
      exact tM_expression_J136 C hA hlocks hr r1 p0 p1 p2 p3 h
    · have h := h.2 g53
      refine x_sub [0, 1, 2, 3, 4] rfl ?_
      exact tM_expression_J19 C hA hlocks hr r1 p0 p1 p2 p3 h
set_option maxRecDepth 100000 in
set_option maxHeartbeats 4000000 in
theorem kM_expression {p : Program} {l : Launch} {e : Env} {R : Room} {s : State} {m : MethodId} {args : Array Value} {below : List Frame} {meth : Method} {c : Code} {cells slots : Nat} {Q : State → Prop} {A : Nat → Prop} {D : va_G} {nL pc : Nat} {cc : ByteArray} {cw : Cond} {own : String} {lv : List (Nat × Value)} {st : List Value} {G : G_} {a : L_} {r : S_} {K : Int32 → S_ → Prop} {p0 : Int32} {p1 : Int32} {p2 : Int32} {p3 : Int32} (C : vx_C p s m args c cc nL (cw :: wAll) own D vwCl (tysG G) nwAll A) {i : Nat} (hl : Cond.methodLink own i yM_expression ∈ wAll) (hR : 1 + 1 ≤ R.frames ∧ 8 + (8 + 11) + 22 ≤ R.locals) (hst : (st.map fun v => v.category).sum ≤ 8) (hd : decode cc pc = .ok (.invokevirtual i, 3)) (hcs : cells ≤ R.cells ∧ slots ≤ R.slots) (h : qM_expression a K r p0 p1 p2 p3) (k : ∀ (v : Int32) (r1 : S_), K v r1 → vx_V p l e R s m args below meth c A D vwCl nL cells slots Q (wo G a r1) (pc + 3) lv (.int v :: st)) : vx_V p l e R s m args below meth c A D vwCl nL cells slots Q (wo G a r) pc lv (.int p3 :: .int p2 :: .int p1 :: .int p0 :: .ref (ob G 7) :: st) := by
  refine x_callVi C (CC := "ClassInferenceModel") (ci := 7) (q0 := 7) (fs := fl7 G a r) (As := [.int p0, .int p1, .int p2, .int p3]) rfl rfl (cM_expression p0 p1 p2 p3 h) (cwV (C := "ClassInferenceModel") 4 C.1.2.2.2.2 (goodV hl wm992 wm993 wm9 wm994) rfl rfl rfl (by decide +kernel) hR) rfl hst hd hcs (fun v w hw => ?_)
  obtain ⟨r1, rfl, h⟩ := hw
  exact k v r1 h
def qM_addNode (a : L_) (K : Int32 → S_ → Prop) (r : S_) (p0 : Int32) (p1 : Int32) (p2 : Int32) : Prop :=
  vp_in (fi r 26) (ln a 50) ∧ ∀ r2 : S_, r2 = sA r 50 (upd (ar r 50) (fi r 26).toNatClampNeg p0) → vp_in (fi r2 26) (ln a 51) ∧ ∀ r4 : S_, r4 = sA r2 51 (upd (ar r2 51) (fi r2 26).toNatClampNeg p1) → vp_in (fi r4 26) (ln a 52) ∧ ∀ r6 : S_, r6 = sA r4 52 (upd (ar r4 52) (fi r4 26).toNatClampNeg p2) → vp_in (fi r6 26) (ln a 53) ∧ ∀ r8 : S_, r8 = sA r6 53 (upd (ar r6 53) (fi r6 26).toNatClampNeg (-1)) → vp_in (fi r8 26) (ln a 54) ∧ ∀ r10 : S_, r10 = sA r8 54 (upd (ar r8 54) (fi r8 26).toNatClampNeg (-1)) → vp_in (fi r10 26) (ln a 59) ∧ ∀ r12 : S_, r12 = sA r10 59 (upd (ar r10 59) (fi r10 26).toNatClampNeg 0) → ∀ r13 : S_, r13 = sF r12 26 ((fi r12 26) + 1) → K ((fi r13 26) - 1) r13
set_option maxRecDepth 100000 in
set_option maxHeartbeats 4000000 in
theorem cM_addNode {a : L_} {r : S_} {K : Int32 → S_ → Prop} (p0 : Int32) (p1 : Int32) (p2 : Int32) (h : qM_addNode a K r p0 p1 p2) : vx_Mi l yM_addNode (Cond.code yM_addNode prog_9_method_18_code 4 (some .int) :: wAll) { frames := 0, cells := 0, slots := 0, locals := 0 } D vwCl (tysG G) nwAll (wo G a r) [.ref (ob G 7), .int p0, .int p1, .int p2] 0 0 (fun v w => ∃ r1, w = wo G a r1 ∧ K v r1) := by
  unfold qM_addNode at h
  refine x_meti (cc := prog_9_method_18_code) (maxL := 4) (ret := (some .int)) (lv0 := [(0, .ref (ob G 7)), (1, .int p0), (2, .int p1), (3, .int p2)]) (by decide) rfl (Nat.le_of_ble_eq_true rfl) rfl ?_
  intro p e s m args below meth c A C hA hlocks hr
  refine x_aload_n C dM_addNode_0 rfl 0 rfl ?_
  refine gf_7_22 C (List.mem_cons_of_mem _ wm738) dM_addNode_1 ?_
  refine x_aload_n C dM_addNode_4 rfl 0 rfl ?_
  refine gf_7_21 C (List.mem_cons_of_mem _ wm737) dM_addNode_5 ?_
  refine x_iload_n C dM_addNode_8 rfl 1 rfl ?_
  obtain ⟨g1, h⟩ := h
  refine y_is C 50 (by decide) g1 dM_addNode_9 (fun r2 er2 => ?_)
  have h := h r2 er2
  refine x_aload_n C dM_addNode_10 rfl 0 rfl ?_
  refine gf_7_23 C (List.mem_cons_of_mem _ wm739) dM_addNode_11 ?_
  refine x_aload_n C dM_addNode_14 rfl 0 rfl ?_
  refine gf_7_21 C (List.mem_cons_of_mem _ wm737) dM_addNode_15 ?_
  refine x_iload_n C dM_addNode_18 rfl 2 rfl ?_
  obtain ⟨g3, h⟩ := h
  refine y_is C 51 (by decide) g3 dM_addNode_19 (fun r4 er4 => ?_)
  have h := h r4 er4
  refine x_aload_n C dM_addNode_20 rfl 0 rfl ?_
  refine gf_7_24 C (List.mem_cons_of_mem _ wm740) dM_addNode_21 ?_
  refine x_aload_n C dM_addNode_24 rfl 0 rfl ?_
  refine gf_7_21 C (List.mem_cons_of_mem _ wm737) dM_addNode_25 ?_
  refine x_iload_n C dM_addNode_28 rfl 3 rfl ?_
  obtain ⟨g5, h⟩ := h
  refine y_is C 52 (by decide) g5 dM_addNode_29 (fun r6 er6 => ?_)
  have h := h r6 er6
  refine x_aload_n C dM_addNode_30 rfl 0 rfl ?_
  refine gf_7_25 C (List.mem_cons_of_mem _ wm741) dM_addNode_31 ?_
  refine x_aload_n C dM_addNode_34 rfl 0 rfl ?_
  refine gf_7_21 C (List.mem_cons_of_mem _ wm737) dM_addNode_35 ?_
  refine x_iconst (v := (-1)) C dM_addNode_38 (by decide) ?_
  obtain ⟨g7, h⟩ := h
  refine y_is C 53 (by decide) g7 dM_addNode_39 (fun r8 er8 => ?_)
  have h := h r8 er8
  refine x_aload_n C dM_addNode_40 rfl 0 rfl ?_
  refine gf_7_26 C (List.mem_cons_of_mem _ wm742) dM_addNode_41 ?_
  refine x_aload_n C dM_addNode_44 rfl 0 rfl ?_
  refine gf_7_21 C (List.mem_cons_of_mem _ wm737) dM_addNode_45 ?_
  refine x_iconst (v := (-1)) C dM_addNode_48 (by decide) ?_
  obtain ⟨g9, h⟩ := h
  refine y_is C 54 (by decide) g9 dM_addNode_49 (fun r10 er10 => ?_)
  have h := h r10 er10
  refine x_aload_n C dM_addNode_50 rfl 0 rfl ?_
  refine gf_7_31 C (List.mem_cons_of_mem _ wm747) dM_addNode_51 ?_
  refine x_aload_n C dM_addNode_54 rfl 0 rfl ?_
  refine gf_7_21 C (List.mem_cons_of_mem _ wm737) dM_addNode_55 ?_
  refine x_iconst (v := 0) C dM_addNode_58 (by decide) ?_
  obtain ⟨g11, h⟩ := h
  refine y_is C 59 (by decide) g11 dM_addNode_59 (fun r12 er12 => ?_)
  have h := h r12 er12
  refine x_aload_n C dM_addNode_60 rfl 0 rfl ?_
  refine x_dup C dM_addNode_61 rfl ?_
  refine gf_7_21 C (List.mem_cons_of_mem _ wm737) dM_addNode_62 ?_
  refine x_iconst (v := 1) C dM_addNode_65 (by decide) ?_
  refine x_iadd C dM_addNode_66 ?_
  refine pf_7_21 C (List.mem_cons_of_mem _ wm737) dM_addNode_67 (fun r13 er13 => ?_)
  have h := h r13 er13
  refine x_aload_n C dM_addNode_70 rfl 0 rfl ?_
  refine gf_7_21 C (List.mem_cons_of_mem _ wm737) dM_addNode_71 ?_
  refine x_iconst (v := 1) C dM_addNode_74 (by decide) ?_
  refine x_isub C dM_addNode_75 ?_
  exact x_iret C hA hlocks hr ⟨r13, rfl, h⟩ dM_addNode_76
set_option maxRecDepth 100000 in
set_option maxHeartbeats 4000000 in
theorem kM_addNode {p : Program} {l : Launch} {e : Env} {R : Room} {s : State} {m : MethodId} {args : Array Value} {below : List Frame} {meth : Method} {c : Code} {cells slots : Nat} {Q : State → Prop} {A : Nat → Prop} {D : va_G} {nL pc : Nat} {cc : ByteArray} {cw : Cond} {own : String} {lv : List (Nat × Value)} {st : List Value} {G : G_} {a : L_} {r : S_} {K : Int32 → S_ → Prop} {p0 : Int32} {p1 : Int32} {p2 : Int32} (C : vx_C p s m args c cc nL (cw :: wAll) own D vwCl (tysG G) nwAll A) {i : Nat} (hl : Cond.methodLink own i yM_addNode ∈ wAll) (hR : 0 + 1 ≤ R.frames ∧ 8 + (4 + 11) + 0 ≤ R.locals) (hst : (st.map fun v => v.category).sum ≤ 8) (hd : decode cc pc = .ok (.invokevirtual i, 3)) (hcs : cells ≤ R.cells ∧ slots ≤ R.slots) (h : qM_addNode a K r p0 p1 p2) (k : ∀ (v : Int32) (r1 : S_), K v r1 → vx_V p l e R s m args below meth c A D vwCl nL cells slots Q (wo G a r1) (pc + 3) lv (.int v :: st)) : vx_V p l e R s m args below meth c A D vwCl nL cells slots Q (wo G a r) pc lv (.int p2 :: .int p1 :: .int p0 :: .ref (ob G 7) :: st) := by
  refine x_callVi C (CC := "ClassInferenceModel") (ci := 7) (q0 := 7) (fs := fl7 G a r) (As := [.int p0, .int p1, .int p2]) rfl rfl (cM_addNode p0 p1 p2 h) (cwV (C := "ClassInferenceModel") 3 C.1.2.2.2.2 (goodV hl wm1009 wp38 wm9 wm1010) rfl rfl rfl (by decide +kernel) hR) rfl hst hd hcs (fun v w hw => ?_)
  obtain ⟨r1, rfl, h⟩ := hw
  exact k v r1 h
def qM_kindOf (a : L_) (r : S_) (K : Int32 → Prop) (p0 : Int32) : Prop :=
  vp_in p0 (ln a 50) ∧ vp_in (ar r 50 p0.toNatClampNeg) (ln a 45) ∧ K (ar r 45 (ar r 50 p0.toNatClampNeg).toNatClampNeg)
set_option maxRecDepth 100000 in
set_option maxHeartbeats 4000000 in
theorem cM_kindOf {a : L_} {r : S_} {K : Int32 → Prop} (p0 : Int32) (h : qM_kindOf a r K p0) : vx_Mi l yM_kindOf (Cond.code yM_kindOf prog_9_method_19_code 2 (some .int) :: wAll) { frames := 0, cells := 0, slots := 0, locals := 0 } D vwCl (tysG G) nwAll (wo G a r) [.ref (ob G 7), .int p0] 0 0 (fun v w => w = wo G a r ∧ K v) := by
  unfold qM_kindOf at h
  refine x_meti (cc := prog_9_method_19_code) (maxL := 2) (ret := (some .int)) (lv0 := [(0, .ref (ob G 7)), (1, .int p0)]) (by decide) rfl (Nat.le_of_ble_eq_true rfl) rfl ?_
  intro p e s m args below meth c A C hA hlocks hr
  refine x_aload_n C dM_kindOf_0 rfl 0 rfl ?_
  refine gf_7_16 C (List.mem_cons_of_mem _ wm732) dM_kindOf_1 ?_
  refine x_aload_n C dM_kindOf_4 rfl 0 rfl ?_
  refine gf_7_22 C (List.mem_cons_of_mem _ wm738) dM_kindOf_5 ?_
  refine x_iload_n C dM_kindOf_8 rfl 1 rfl ?_
  obtain ⟨g1, h⟩ := h
  refine y_ia C 50 (by decide) g1 dM_kindOf_9 ?_
  obtain ⟨g2, h⟩ := h
  refine y_ia C 45 (by decide) g2 dM_kindOf_10 ?_
  exact x_iret C hA hlocks hr ⟨rfl, h⟩ dM_kindOf_11
set_option maxRecDepth 100000 in
set_option maxHeartbeats 4000000 in
theorem kM_kindOf {p : Program} {l : Launch} {e : Env} {R : Room} {s : State} {m : MethodId} {args : Array Value} {below : List Frame} {meth : Method} {c : Code} {cells slots : Nat} {Q : State → Prop} {A : Nat → Prop} {D : va_G} {nL pc : Nat} {cc : ByteArray} {cw : Cond} {own : String} {lv : List (Nat × Value)} {st : List Value} {G : G_} {a : L_} {r : S_} {K : Int32 → Prop} {p0 : Int32} (C : vx_C p s m args c cc nL (cw :: wAll) own D vwCl (tysG G) nwAll A) {i : Nat} (hl : Cond.methodLink own i yM_kindOf ∈ wAll) (hR : 0 + 1 ≤ R.frames ∧ 8 + (2 + 11) + 0 ≤ R.locals) (hst : (st.map fun v => v.category).sum ≤ 8) (hd : decode cc pc = .ok (.invokevirtual i, 3)) (hcs : cells ≤ R.cells ∧ slots ≤ R.slots) (h : qM_kindOf a r K p0) (k : ∀ (v : Int32), K v → vx_V p l e R s m args below meth c A D vwCl nL cells slots Q (wo G a r) (pc + 3) lv (.int v :: st)) : vx_V p l e R s m args below meth c A D vwCl nL cells slots Q (wo G a r) pc lv (.int p0 :: .ref (ob G 7) :: st) := by
  refine x_callVi C (CC := "ClassInferenceModel") (ci := 7) (q0 := 7) (fs := fl7 G a r) (As := [.int p0]) rfl rfl (cM_kindOf p0 h) (cwV (C := "ClassInferenceModel") 1 C.1.2.2.2.2 (goodV hl wm1021 wp41 wm9 wm1022) rfl rfl rfl (by decide +kernel) hR) rfl hst hd hcs (fun v w hw => ?_)
  obtain ⟨rfl, h⟩ := hw
  exact k v h
end MTH
