section MTH
variable {p : Program} {l : Launch} {e : Env} {s : State} {m : MethodId} {args : Array Value} {below : List Frame} {meth : Method} {c : Code} {Q : State → Prop} {A : Nat → Prop} {D : va_G} {G : G_} {ws0 : va_W}
def qM_unify_J257 (a : L_) (KB16 : S_ → Int32 → Prop) (KX260 : S_ → Prop) (r : S_) (v3 : Int32) : Prop :=
  KB16 r v3
set_option maxRecDepth 100000 in
set_option maxHeartbeats 4000000 in
theorem tM_unify_J257 (C : vx_C p s m args c prog_9_method_26_code 7 (Cond.code yM_unify prog_9_method_26_code 7 none :: wAll) "ClassInferenceModel" D vwCl (tysG G) nwAll A) {a : L_} {KB16 : S_ → Int32 → Prop} {KX260 : S_ → Prop} (kB16 : ∀ (r : S_) (v3 : Int32), KB16 r v3 → vx_V p l e { frames := 1, cells := 0, slots := 0, locals := 22 } s m args below meth c A D vwCl 7 0 0 Q (wo G a r) 16 [(0, .ref (ob G 7)), (3, .int v3)] []) (kX260 : ∀ (r : S_), KX260 r → vx_V p l e { frames := 1, cells := 0, slots := 0, locals := 22 } s m args below meth c A D vwCl 7 0 0 Q (wo G a r) 260 [] []) (r : S_) (v3 : Int32) (h : qM_unify_J257 a KB16 KX260 r v3) : vx_V p l e { frames := 1, cells := 0, slots := 0, locals := 22 } s m args below meth c A D vwCl 7 0 0 Q (wo G a r) 257 [(0, .ref (ob G 7)), (3, .int v3)] [] := by
  unfold qM_unify_J257 at h
  refine x_goto (tgt := 16) C dM_unify_257 (by decide) ?_
  refine x_sub [0, 1] rfl ?_
  exact kB16 r v3 h
def qM_unify_J219 (a : L_) (KB16 : S_ → Int32 → Prop) (KX260 : S_ → Prop) (r : S_) (v3 : Int32) (v4 : Int32) (v5 : Int32) (v6 : Int32) : Prop :=
  ((v6 ≤ 1) → qM_unify_J257 a KB16 KX260 r v3) ∧ ((¬ v6 ≤ 1) → vp_in v4 (ln a 67) ∧ vp_in v3 (ln a 72) ∧ ∀ r28 : S_, r28 = sA r 72 (upd (ar r 72) v3.toNatClampNeg (ar r 67 v4.toNatClampNeg)) → vp_in v5 (ln a 67) ∧ vp_in (v3 + 1) (ln a 72) ∧ ∀ r31 : S_, r31 = sA r28 72 (upd (ar r28 72) (v3 + 1).toNatClampNeg (ar r28 67 v5.toNatClampNeg)) → qM_unify_J257 a KB16 KX260 r31 (v3 + 2))
set_option maxRecDepth 100000 in
set_option maxHeartbeats 4000000 in
theorem tM_unify_J219 (C : vx_C p s m args c prog_9_method_26_code 7 (Cond.code yM_unify prog_9_method_26_code 7 none :: wAll) "ClassInferenceModel" D vwCl (tysG G) nwAll A) {a : L_} {KB16 : S_ → Int32 → Prop} {KX260 : S_ → Prop} (kB16 : ∀ (r : S_) (v3 : Int32), KB16 r v3 → vx_V p l e { frames := 1, cells := 0, slots := 0, locals := 22 } s m args below meth c A D vwCl 7 0 0 Q (wo G a r) 16 [(0, .ref (ob G 7)), (3, .int v3)] []) (kX260 : ∀ (r : S_), KX260 r → vx_V p l e { frames := 1, cells := 0, slots := 0, locals := 22 } s m args below meth c A D vwCl 7 0 0 Q (wo G a r) 260 [] []) (r : S_) (v3 : Int32) (v4 : Int32) (v5 : Int32) (v6 : Int32) (h : qM_unify_J219 a KB16 KX260 r v3 v4 v5 v6) : vx_V p l e { frames := 1, cells := 0, slots := 0, locals := 22 } s m args below meth c A D vwCl 7 0 0 Q (wo G a r) 219 [(0, .ref (ob G 7)), (3, .int v3), (4, .int v4), (5, .int v5), (6, .int v6)] [] := by
  unfold qM_unify_J219 at h
  refine x_iload C dM_unify_219 4 rfl ?_
  refine x_iconst (v := 1) C dM_unify_221 (by decide) ?_
  refine x_icmp_le (tgt := 257) C dM_unify_222 (by decide) (fun g25 => ?_) (fun g25 => ?_)
  · have h := h.1 g25
    refine x_sub [0, 1] rfl ?_
    exact tM_unify_J257 C kB16 kX260 r v3 h
  · have h := h.2 g25
    refine x_aload_n C dM_unify_225 rfl 0 rfl ?_
    refine gf_7_48 C (List.mem_cons_of_mem _ wm764) dM_unify_226 ?_
    refine x_iload_n C dM_unify_229 rfl 1 rfl ?_
    refine x_aload_n C dM_unify_230 rfl 0 rfl ?_
    refine gf_7_41 C (List.mem_cons_of_mem _ wm757) dM_unify_231 ?_
    refine x_iload C dM_unify_234 2 rfl ?_
    obtain ⟨g26, h⟩ := h
    refine y_ia C 67 (by decide) g26 dM_unify_236 ?_
    obtain ⟨g27, h⟩ := h
    refine y_is C 72 (by decide) g27 dM_unify_237 (fun r28 er28 => ?_)
    have h := h r28 er28
    refine x_aload_n C dM_unify_238 rfl 0 rfl ?_
    refine gf_7_48 C (List.mem_cons_of_mem _ wm764) dM_unify_239 ?_
    refine x_iload_n C dM_unify_242 rfl 1 rfl ?_
    refine x_iconst (v := 1) C dM_unify_243 (by decide) ?_
    refine x_iadd C dM_unify_244 ?_
    refine x_aload_n C dM_unify_245 rfl 0 rfl ?_
    refine gf_7_41 C (List.mem_cons_of_mem _ wm757) dM_unify_246 ?_
    refine x_iload C dM_unify_249 3 rfl ?_
    obtain ⟨g29, h⟩ := h
    refine y_ia C 67 (by decide) g29 dM_unify_251 ?_
    obtain ⟨g30, h⟩ := h
    refine y_is C 72 (by decide) g30 dM_unify_252 (fun r31 er31 => ?_)
    have h := h r31 er31
    refine x_iload_n C dM_unify_253 rfl 1 rfl ?_
    refine x_iconst (v := 2) C dM_unify_254 (by decide) ?_
    refine x_iadd C dM_unify_255 ?_
    refine x_istore_n C [(3, .int (v3 + 2)), (0, .ref (ob G 7)), (4, .int v4), (5, .int v5), (6, .int v6)] dM_unify_256 rfl (by decide) rfl ?_
    refine x_sub [1, 0] rfl ?_
    exact tM_unify_J257 C kB16 kX260 r31 (v3 + 2) h
def qM_unify_J180 (a : L_) (KB16 : S_ → Int32 → Prop) (KX260 : S_ → Prop) (r : S_) (v3 : Int32) (v4 : Int32) (v5 : Int32) (u0 : Int32) : Prop :=
  ((u0 ≤ 0) → qM_unify_J219 a KB16 KX260 r v3 v4 v5 u0) ∧ ((¬ u0 ≤ 0) → vp_in v4 (ln a 66) ∧ vp_in v3 (ln a 72) ∧ ∀ r34 : S_, r34 = sA r 72 (upd (ar r 72) v3.toNatClampNeg (ar r 66 v4.toNatClampNeg)) → vp_in v5 (ln a 66) ∧ vp_in (v3 + 1) (ln a 72) ∧ ∀ r37 : S_, r37 = sA r34 72 (upd (ar r34 72) (v3 + 1).toNatClampNeg (ar r34 66 v5.toNatClampNeg)) → qM_unify_J219 a KB16 KX260 r37 (v3 + 2) v4 v5 u0)
set_option maxRecDepth 100000 in
set_option maxHeartbeats 4000000 in
theorem tM_unify_J180 (C : vx_C p s m args c prog_9_method_26_code 7 (Cond.code yM_unify prog_9_method_26_code 7 none :: wAll) "ClassInferenceModel" D vwCl (tysG G) nwAll A) {a : L_} {KB16 : S_ → Int32 → Prop} {KX260 : S_ → Prop} (kB16 : ∀ (r : S_) (v3 : Int32), KB16 r v3 → vx_V p l e { frames := 1, cells := 0, slots := 0, locals := 22 } s m args below meth c A D vwCl 7 0 0 Q (wo G a r) 16 [(0, .ref (ob G 7)), (3, .int v3)] []) (kX260 : ∀ (r : S_), KX260 r → vx_V p l e { frames := 1, cells := 0, slots := 0, locals := 22 } s m args below meth c A D vwCl 7 0 0 Q (wo G a r) 260 [] []) (r : S_) (v3 : Int32) (v4 : Int32) (v5 : Int32) (u0 : Int32) (h : qM_unify_J180 a KB16 KX260 r v3 v4 v5 u0) : vx_V p l e { frames := 1, cells := 0, slots := 0, locals := 22 } s m args below meth c A D vwCl 7 0 0 Q (wo G a r) 180 [(0, .ref (ob G 7)), (3, .int v3), (4, .int v4), (5, .int v5)] [.int u0] := by
  unfold qM_unify_J180 at h
  refine x_istore C [(6, .int u0), (0, .ref (ob G 7)), (3, .int v3), (4, .int v4), (5, .int v5)] dM_unify_180 (by decide) rfl ?_
  refine x_iload C dM_unify_182 0 rfl ?_
  refine x_if_le (tgt := 219) C dM_unify_184 (by decide) (fun g24 => ?_) (fun g24 => ?_)
  · have h := h.1 g24
    refine x_sub [1, 2, 3, 4, 0] rfl ?_
    exact tM_unify_J219 C kB16 kX260 r v3 v4 v5 u0 h
  · have h := h.2 g24
    refine x_aload_n C dM_unify_187 rfl 1 rfl ?_
    refine gf_7_48 C (List.mem_cons_of_mem _ wm764) dM_unify_188 ?_
    refine x_iload_n C dM_unify_191 rfl 2 rfl ?_
    refine x_aload_n C dM_unify_192 rfl 1 rfl ?_
    refine gf_7_40 C (List.mem_cons_of_mem _ wm756) dM_unify_193 ?_
    refine x_iload C dM_unify_196 3 rfl ?_
    obtain ⟨g32, h⟩ := h
    refine y_ia C 66 (by decide) g32 dM_unify_198 ?_
    obtain ⟨g33, h⟩ := h
    refine y_is C 72 (by decide) g33 dM_unify_199 (fun r34 er34 => ?_)
    have h := h r34 er34
    refine x_aload_n C dM_unify_200 rfl 1 rfl ?_
    refine gf_7_48 C (List.mem_cons_of_mem _ wm764) dM_unify_201 ?_
    refine x_iload_n C dM_unify_204 rfl 2 rfl ?_
    refine x_iconst (v := 1) C dM_unify_205 (by decide) ?_
    refine x_iadd C dM_unify_206 ?_
    refine x_aload_n C dM_unify_207 rfl 1 rfl ?_
    refine gf_7_40 C (List.mem_cons_of_mem _ wm756) dM_unify_208 ?_
    refine x_iload C dM_unify_211 4 rfl ?_
    obtain ⟨g35, h⟩ := h
    refine y_ia C 66 (by decide) g35 dM_unify_213 ?_
    obtain ⟨g36, h⟩ := h
    refine y_is C 72 (by decide) g36 dM_unify_214 (fun r37 er37 => ?_)
    have h := h r37 er37
    refine x_iload_n C dM_unify_215 rfl 2 rfl ?_
    refine x_iconst (v := 2) C dM_unify_216 (by decide) ?_
    refine x_iadd C dM_unify_217 ?_
    refine x_istore_n C [(3, .int (v3 + 2)), (6, .int u0), (0, .ref (ob G 7)), (4, .int v4), (5, .int v5)] dM_unify_218 rfl (by decide) rfl ?_
    refine x_sub [2, 0, 3, 4, 1] rfl ?_
    exact tM_unify_J219 C kB16 kX260 r37 (v3 + 2) v4 v5 u0 h
def qM_unify_J145 (a : L_) (KB16 : S_ → Int32 → Prop) (KX260 : S_ → Prop) (r : S_) (v3 : Int32) (v4 : Int32) (v5 : Int32) (u0 : Int32) : Prop :=
  zb u0 ∧ ∀ r17 : S_, r17 = sF r 32 u0 → vp_in v4 (ln a 64) ∧ ∀ r20 : S_, r20 = sA r17 64 (upd (ar r17 64) v4.toNatClampNeg v5) → (((fi r20 32) = 0) → vp_in v4 (ln a 65) ∧ vp_in (ar r20 65 v4.toNatClampNeg) (ln a 36) ∧ qM_unify_J180 a KB16 KX260 r20 v3 v4 v5 (ar r20 36 (ar r20 65 v4.toNatClampNeg).toNatClampNeg)) ∧ ((¬ (fi r20 32) = 0) → qM_unify_J180 a KB16 KX260 r20 v3 v4 v5 0)
set_option maxRecDepth 100000 in
set_option maxHeartbeats 4000000 in
theorem tM_unify_J145 (C : vx_C p s m args c prog_9_method_26_code 7 (Cond.code yM_unify prog_9_method_26_code 7 none :: wAll) "ClassInferenceModel" D vwCl (tysG G) nwAll A) {a : L_} {KB16 : S_ → Int32 → Prop} {KX260 : S_ → Prop} (kB16 : ∀ (r : S_) (v3 : Int32), KB16 r v3 → vx_V p l e { frames := 1, cells := 0, slots := 0, locals := 22 } s m args below meth c A D vwCl 7 0 0 Q (wo G a r) 16 [(0, .ref (ob G 7)), (3, .int v3)] []) (kX260 : ∀ (r : S_), KX260 r → vx_V p l e { frames := 1, cells := 0, slots := 0, locals := 22 } s m args below meth c A D vwCl 7 0 0 Q (wo G a r) 260 [] []) (r : S_) (v3 : Int32) (v4 : Int32) (v5 : Int32) (u0 : Int32) (h : qM_unify_J145 a KB16 KX260 r v3 v4 v5 u0) : vx_V p l e { frames := 1, cells := 0, slots := 0, locals := 22 } s m args below meth c A D vwCl 7 0 0 Q (wo G a r) 145 [(0, .ref (ob G 7)), (3, .int v3), (4, .int v4), (5, .int v5)] [.int u0, .ref (ob G 7)] := by
  unfold qM_unify_J145 at h
  obtain ⟨g18, h⟩ := h
  refine pf_7_56 C (List.mem_cons_of_mem _ wm772) g18 dM_unify_145 (fun r17 er17 => ?_)
  have h := h r17 er17
  refine x_aload_n C dM_unify_148 rfl 0 rfl ?_
  refine gf_7_38 C (List.mem_cons_of_mem _ wm754) dM_unify_149 ?_
  refine x_iload C dM_unify_152 2 rfl ?_
  refine x_iload C dM_unify_154 3 rfl ?_
  obtain ⟨g19, h⟩ := h
  refine y_is C 64 (by decide) g19 dM_unify_156 (fun r20 er20 => ?_)
  have h := h r20 er20
  refine x_aload_n C dM_unify_157 rfl 0 rfl ?_
  refine gf_7_56 C (List.mem_cons_of_mem _ wm772) dM_unify_158 ?_
  refine x_if_eq (tgt := 168) C dM_unify_161 (by decide) (fun g21 => ?_) (fun g21 => ?_)
  · have h := h.1 g21
    refine x_aload_n C dM_unify_168 rfl 0 rfl ?_
    refine gf_7_2 C (List.mem_cons_of_mem _ wm718) dM_unify_169 ?_
    refine x_aload_n C dM_unify_172 rfl 0 rfl ?_
    refine gf_7_39 C (List.mem_cons_of_mem _ wm755) dM_unify_173 ?_
    refine x_iload C dM_unify_176 2 rfl ?_
    obtain ⟨g22, h⟩ := h
    refine y_ia C 65 (by decide) g22 dM_unify_178 ?_
    obtain ⟨g23, h⟩ := h
    refine y_ia C 36 (by decide) g23 dM_unify_179 ?_
    refine x_sub [0, 1, 2, 3] rfl ?_
    exact tM_unify_J180 C kB16 kX260 r20 v3 v4 v5 (ar r20 36 (ar r20 65 v4.toNatClampNeg).toNatClampNeg) h
  · have h := h.2 g21
    refine x_iconst (v := 0) C dM_unify_164 (by decide) ?_
    refine x_goto (tgt := 180) C dM_unify_165 (by decide) ?_
    refine x_sub [0, 1, 2, 3] rfl ?_
    exact tM_unify_J180 C kB16 kX260 r20 v3 v4 v5 0 h
def qM_unify_J115 (a : L_) (KB16 : S_ → Int32 → Prop) (KX260 : S_ → Prop) (r : S_) (v3 : Int32) (v4 : Int32) (v5 : Int32) : Prop :=
  ((v4 = v5) → qM_unify_J257 a KB16 KX260 r v3) ∧ ((¬ v4 = v5) → vp_in v4 (ln a 65) ∧ vp_in v5 (ln a 65) ∧ (((ar r 65 v4.toNatClampNeg) = (ar r 65 v5.toNatClampNeg)) → qM_unify_J145 a KB16 KX260 r v3 v4 v5 0) ∧ ((¬ (ar r 65 v4.toNatClampNeg) = (ar r 65 v5.toNatClampNeg)) → qM_unify_J145 a KB16 KX260 r v3 v4 v5 1))
set_option maxRecDepth 100000 in
set_option maxHeartbeats 4000000 in
theorem tM_unify_J115 (C : vx_C p s m args c prog_9_method_26_code 7 (Cond.code yM_unify prog_9_method_26_code 7 none :: wAll) "ClassInferenceModel" D vwCl (tysG G) nwAll A) {a : L_} {KB16 : S_ → Int32 → Prop} {KX260 : S_ → Prop} (kB16 : ∀ (r : S_) (v3 : Int32), KB16 r v3 → vx_V p l e { frames := 1, cells := 0, slots := 0, locals := 22 } s m args below meth c A D vwCl 7 0 0 Q (wo G a r) 16 [(0, .ref (ob G 7)), (3, .int v3)] []) (kX260 : ∀ (r : S_), KX260 r → vx_V p l e { frames := 1, cells := 0, slots := 0, locals := 22 } s m args below meth c A D vwCl 7 0 0 Q (wo G a r) 260 [] []) (r : S_) (v3 : Int32) (v4 : Int32) (v5 : Int32) (h : qM_unify_J115 a KB16 KX260 r v3 v4 v5) : vx_V p l e { frames := 1, cells := 0, slots := 0, locals := 22 } s m args below meth c A D vwCl 7 0 0 Q (wo G a r) 115 [(0, .ref (ob G 7)), (3, .int v3), (4, .int v4), (5, .int v5)] [] := by
  unfold qM_unify_J115 at h
  refine x_iload C dM_unify_115 2 rfl ?_
  refine x_iload C dM_unify_117 3 rfl ?_
  refine x_icmp_eq (tgt := 257) C dM_unify_119 (by decide) (fun g13 => ?_) (fun g13 => ?_)
  · have h := h.1 g13
    refine x_sub [0, 1] rfl ?_
    exact tM_unify_J257 C kB16 kX260 r v3 h
  · have h := h.2 g13
    refine x_aload_n C dM_unify_122 rfl 0 rfl ?_
    refine x_aload_n C dM_unify_123 rfl 0 rfl ?_
    refine gf_7_39 C (List.mem_cons_of_mem _ wm755) dM_unify_124 ?_
    refine x_iload C dM_unify_127 2 rfl ?_
    obtain ⟨g14, h⟩ := h
    refine y_ia C 65 (by decide) g14 dM_unify_129 ?_
    refine x_aload_n C dM_unify_130 rfl 0 rfl ?_
    refine gf_7_39 C (List.mem_cons_of_mem _ wm755) dM_unify_131 ?_
    refine x_iload C dM_unify_134 3 rfl ?_
    obtain ⟨g15, h⟩ := h
    refine y_ia C 65 (by decide) g15 dM_unify_136 ?_
    refine x_icmp_eq (tgt := 144) C dM_unify_137 (by decide) (fun g16 => ?_) (fun g16 => ?_)
    · have h := h.1 g16
      refine x_iconst (v := 0) C dM_unify_144 (by decide) ?_
      refine x_sub [0, 1, 2, 3] rfl ?_
      exact tM_unify_J145 C kB16 kX260 r v3 v4 v5 0 h
    · have h := h.2 g16
      refine x_iconst (v := 1) C dM_unify_140 (by decide) ?_
      refine x_goto (tgt := 145) C dM_unify_141 (by decide) ?_
      refine x_sub [0, 1, 2, 3] rfl ?_
      exact tM_unify_J145 C kB16 kX260 r v3 v4 v5 1 h
def qM_unify_J86 (a : L_) (KB16 : S_ → Int32 → Prop) (KX260 : S_ → Prop) (r : S_) (v3 : Int32) (v4 : Int32) (v5 : Int32) : Prop :=
  ((v4 = v5) → qM_unify_J115 a KB16 KX260 r v3 v4 v5) ∧ ((¬ v4 = v5) → vp_in v5 (ln a 65) ∧ ((0 ≤ (ar r 65 v5.toNatClampNeg)) → qM_unify_J115 a KB16 KX260 r v3 v4 v5) ∧ ((¬ 0 ≤ (ar r 65 v5.toNatClampNeg)) → vp_in v5 (ln a 64) ∧ ∀ r41 : S_, r41 = sA r 64 (upd (ar r 64) v5.toNatClampNeg v4) → qM_unify_J257 a KB16 KX260 r41 v3))
set_option maxRecDepth 100000 in
set_option maxHeartbeats 4000000 in
theorem tM_unify_J86 (C : vx_C p s m args c prog_9_method_26_code 7 (Cond.code yM_unify prog_9_method_26_code 7 none :: wAll) "ClassInferenceModel" D vwCl (tysG G) nwAll A) {a : L_} {KB16 : S_ → Int32 → Prop} {KX260 : S_ → Prop} (kB16 : ∀ (r : S_) (v3 : Int32), KB16 r v3 → vx_V p l e { frames := 1, cells := 0, slots := 0, locals := 22 } s m args below meth c A D vwCl 7 0 0 Q (wo G a r) 16 [(0, .ref (ob G 7)), (3, .int v3)] []) (kX260 : ∀ (r : S_), KX260 r → vx_V p l e { frames := 1, cells := 0, slots := 0, locals := 22 } s m args below meth c A D vwCl 7 0 0 Q (wo G a r) 260 [] []) (r : S_) (v3 : Int32) (v4 : Int32) (v5 : Int32) (h : qM_unify_J86 a KB16 KX260 r v3 v4 v5) : vx_V p l e { frames := 1, cells := 0, slots := 0, locals := 22 } s m args below meth c A D vwCl 7 0 0 Q (wo G a r) 86 [(0, .ref (ob G 7)), (3, .int v3), (4, .int v4), (5, .int v5)] [] := by
  unfold qM_unify_J86 at h
  refine x_iload C dM_unify_86 2 rfl ?_
  refine x_iload C dM_unify_88 3 rfl ?_
  refine x_icmp_eq (tgt := 115) C dM_unify_90 (by decide) (fun g12 => ?_) (fun g12 => ?_)
  · have h := h.1 g12
    refine x_sub [0, 1, 2, 3] rfl ?_
    exact tM_unify_J115 C kB16 kX260 r v3 v4 v5 h
  · have h := h.2 g12
    refine x_aload_n C dM_unify_93 rfl 0 rfl ?_
    refine gf_7_39 C (List.mem_cons_of_mem _ wm755) dM_unify_94 ?_
    refine x_iload C dM_unify_97 3 rfl ?_
    obtain ⟨g38, h⟩ := h
    refine y_ia C 65 (by decide) g38 dM_unify_99 ?_
    refine x_if_ge (tgt := 115) C dM_unify_100 (by decide) (fun g39 => ?_) (fun g39 => ?_)
    · have h := h.1 g39
      refine x_sub [0, 1, 2, 3] rfl ?_
      exact tM_unify_J115 C kB16 kX260 r v3 v4 v5 h
    · have h := h.2 g39
      refine x_aload_n C dM_unify_103 rfl 0 rfl ?_
      refine gf_7_38 C (List.mem_cons_of_mem _ wm754) dM_unify_104 ?_
      refine x_iload C dM_unify_107 3 rfl ?_
      refine x_iload C dM_unify_109 2 rfl ?_
      obtain ⟨g40, h⟩ := h
      refine y_is C 64 (by decide) g40 dM_unify_111 (fun r41 er41 => ?_)
      have h := h r41 er41
      refine x_goto (tgt := 257) C dM_unify_112 (by decide) ?_
      refine x_sub [0, 1] rfl ?_
      exact tM_unify_J257 C kB16 kX260 r41 v3 h
def qM_unify_L16 (a : L_) (KX260 : S_ → Prop) : Nat → S_ → Int32 → Prop
  | 0, _, _ => False
  | n + 1, r, v3 => ((v3 ≤ 0) → KX260 r) ∧ ((¬ v3 ≤ 0) → ((¬ (fi r 32) = 0) → KX260 r) ∧ (((fi r 32) = 0) → vp_in (v3 - 2) (ln a 72) ∧ qM_find a r (fun z8 => vp_in ((v3 - 2) + 1) (ln a 72) ∧ qM_find a r (fun z10 => ((z8 = z10) → qM_unify_J86 a (qM_unify_L16 a KX260 n) KX260 r (v3 - 2) z8 z10) ∧ ((¬ z8 = z10) → vp_in z8 (ln a 65) ∧ ((0 ≤ (ar r 65 z8.toNatClampNeg)) → qM_unify_J86 a (qM_unify_L16 a KX260 n) KX260 r (v3 - 2) z8 z10) ∧ ((¬ 0 ≤ (ar r 65 z8.toNatClampNeg)) → vp_in z8 (ln a 64) ∧ ∀ r45 : S_, r45 = sA r 64 (upd (ar r 64) z8.toNatClampNeg z10) → qM_unify_J257 a (qM_unify_L16 a KX260 n) KX260 r45 (v3 - 2)))) (ar r 72 ((v3 - 2) + 1).toNatClampNeg)) (ar r 72 (v3 - 2).toNatClampNeg)))
set_option maxRecDepth 100000 in
set_option maxHeartbeats 4000000 in
theorem tM_unify_L16 (C : vx_C p s m args c prog_9_method_26_code 7 (Cond.code yM_unify prog_9_method_26_code 7 none :: wAll) "ClassInferenceModel" D vwCl (tysG G) nwAll A) {a : L_} {KX260 : S_ → Prop} (kX260 : ∀ (r : S_), KX260 r → vx_V p l e { frames := 1, cells := 0, slots := 0, locals := 22 } s m args below meth c A D vwCl 7 0 0 Q (wo G a r) 260 [] []) : ∀ (n : Nat) (r : S_) (v3 : Int32), qM_unify_L16 a KX260 n r v3 → vx_V p l e { frames := 1, cells := 0, slots := 0, locals := 22 } s m args below meth c A D vwCl 7 0 0 Q (wo G a r) 16 [(0, .ref (ob G 7)), (3, .int v3)] [] := by
  intro n
  induction n with
  | zero =>
    intro r v3 h
    exact (by rw [qM_unify_L16] at h; exact h : False).elim
  | succ n kB16 =>
    intro r v3 h
    rw [qM_unify_L16] at h
    refine x_iload_n C dM_unify_16 rfl 1 rfl ?_
    refine x_if_le (tgt := 260) C dM_unify_17 (by decide) (fun g5 => ?_) (fun g5 => ?_)
    · have h := h.1 g5
      refine x_sub [] rfl ?_
      exact kX260 r h
    · have h := h.2 g5
      refine x_aload_n C dM_unify_20 rfl 0 rfl ?_
      refine gf_7_56 C (List.mem_cons_of_mem _ wm772) dM_unify_21 ?_
      refine x_if_ne (tgt := 260) C dM_unify_24 (by decide) (fun g6 => ?_) (fun g6 => ?_)
      · have h := h.1 g6
        refine x_sub [] rfl ?_
        exact kX260 r h
      · have h := h.2 g6
        refine x_iload_n C dM_unify_27 rfl 1 rfl ?_
        refine x_iconst (v := 2) C dM_unify_28 (by decide) ?_
        refine x_isub C dM_unify_29 ?_
        refine x_istore_n C [(3, .int (v3 - 2)), (0, .ref (ob G 7))] dM_unify_30 rfl (by decide) rfl ?_
        refine x_aload_n C dM_unify_31 rfl 1 rfl ?_
        refine x_aload_n C dM_unify_32 rfl 1 rfl ?_
        refine gf_7_48 C (List.mem_cons_of_mem _ wm764) dM_unify_33 ?_
        refine x_iload_n C dM_unify_36 rfl 0 rfl ?_
        obtain ⟨g7, h⟩ := h
        refine y_ia C 72 (by decide) g7 dM_unify_37 ?_
        refine kM_find C wm1039 ⟨Nat.le_of_ble_eq_true rfl, Nat.le_of_ble_eq_true rfl⟩ (Nat.le_of_ble_eq_true rfl) dM_unify_38 ⟨Nat.zero_le _, Nat.zero_le _⟩ h (fun z8 h => ?_)
        refine x_istore C [(4, .int z8), (3, .int (v3 - 2)), (0, .ref (ob G 7))] dM_unify_41 (by decide) rfl ?_
        refine x_aload_n C dM_unify_43 rfl 2 rfl ?_
        refine x_aload_n C dM_unify_44 rfl 2 rfl ?_
        refine gf_7_48 C (List.mem_cons_of_mem _ wm764) dM_unify_45 ?_
        refine x_iload_n C dM_unify_48 rfl 1 rfl ?_
        refine x_iconst (v := 1) C dM_unify_49 (by decide) ?_
        refine x_iadd C dM_unify_50 ?_
        obtain ⟨g9, h⟩ := h
        refine y_ia C 72 (by decide) g9 dM_unify_51 ?_
        refine kM_find C wm1039 ⟨Nat.le_of_ble_eq_true rfl, Nat.le_of_ble_eq_true rfl⟩ (Nat.le_of_ble_eq_true rfl) dM_unify_52 ⟨Nat.zero_le _, Nat.zero_le _⟩ h (fun z10 h => ?_)
        refine x_istore C [(5, .int z10), (4, .int z8), (3, .int (v3 - 2)), (0, .ref (ob G 7))] dM_unify_55 (by decide) rfl ?_
        refine x_iload C dM_unify_57 1 rfl ?_
        refine x_iload C dM_unify_59 0 rfl ?_
        refine x_icmp_eq (tgt := 86) C dM_unify_61 (by decide) (fun g11 => ?_) (fun g11 => ?_)
        · have h := h.1 g11
          refine x_sub [3, 2, 1, 0] rfl ?_
          exact tM_unify_J86 C kB16 kX260 r (v3 - 2) z8 z10 h
        · have h := h.2 g11
          refine x_aload_n C dM_unify_64 rfl 3 rfl ?_
          refine gf_7_39 C (List.mem_cons_of_mem _ wm755) dM_unify_65 ?_
          refine x_iload C dM_unify_68 1 rfl ?_
          obtain ⟨g42, h⟩ := h
          refine y_ia C 65 (by decide) g42 dM_unify_70 ?_
          refine x_if_ge (tgt := 86) C dM_unify_71 (by decide) (fun g43 => ?_) (fun g43 => ?_)
          · have h := h.1 g43
            refine x_sub [3, 2, 1, 0] rfl ?_
            exact tM_unify_J86 C kB16 kX260 r (v3 - 2) z8 z10 h
          · have h := h.2 g43
            refine x_aload_n C dM_unify_74 rfl 3 rfl ?_
            refine gf_7_38 C (List.mem_cons_of_mem _ wm754) dM_unify_75 ?_
            refine x_iload C dM_unify_78 1 rfl ?_
            refine x_iload C dM_unify_80 0 rfl ?_
            obtain ⟨g44, h⟩ := h
            refine y_is C 64 (by decide) g44 dM_unify_82 (fun r45 er45 => ?_)
            have h := h r45 er45
            refine x_goto (tgt := 257) C dM_unify_83 (by decide) ?_
            refine x_sub [3, 2] rfl ?_
            exact tM_unify_J257 C kB16 kX260 r45 (v3 - 2) h
def qM_unify (a : L_) (K : S_ → Prop) (r : S_) (p0 : Int32) (p1 : Int32) : Prop :=
  vp_in 0 (ln a 72) ∧ ∀ r2 : S_, r2 = sA r 72 (upd (ar r 72) (0 : Int32).toNatClampNeg p0) → vp_in 1 (ln a 72) ∧ ∀ r4 : S_, r4 = sA r2 72 (upd (ar r2 72) (1 : Int32).toNatClampNeg p1) → ∃ n46 : Nat, qM_unify_L16 a (fun r => K r) n46 r4 2
set_option maxRecDepth 100000 in
set_option maxHeartbeats 4000000 in
theorem cM_unify {a : L_} {r : S_} {K : S_ → Prop} (p0 : Int32) (p1 : Int32) (h : qM_unify a K r p0 p1) : vx_Mv l yM_unify (Cond.code yM_unify prog_9_method_26_code 7 none :: wAll) { frames := 1, cells := 0, slots := 0, locals := 22 } D vwCl (tysG G) nwAll (wo G a r) [.ref (ob G 7), .int p0, .int p1] 0 0 (fun w => ∃ r1, w = wo G a r1 ∧ K r1) := by
  unfold qM_unify at h
  refine x_metv (cc := prog_9_method_26_code) (maxL := 7) (ret := none) (lv0 := [(0, .ref (ob G 7)), (1, .int p0), (2, .int p1)]) (by decide) rfl (Nat.le_of_ble_eq_true rfl) rfl ?_
  intro p e s m args below meth c A C hA hlocks hr
  refine x_iconst (v := 2) C dM_unify_0 (by decide) ?_
  refine x_istore_n C [(3, .int 2), (0, .ref (ob G 7)), (1, .int p0), (2, .int p1)] dM_unify_1 rfl (by decide) rfl ?_
  refine x_aload_n C dM_unify_2 rfl 1 rfl ?_
  refine gf_7_48 C (List.mem_cons_of_mem _ wm764) dM_unify_3 ?_
  refine x_iconst (v := 0) C dM_unify_6 (by decide) ?_
  refine x_iload_n C dM_unify_7 rfl 2 rfl ?_
  obtain ⟨g1, h⟩ := h
  refine y_is C 72 (by decide) g1 dM_unify_8 (fun r2 er2 => ?_)
  have h := h r2 er2
  refine x_aload_n C dM_unify_9 rfl 1 rfl ?_
  refine gf_7_48 C (List.mem_cons_of_mem _ wm764) dM_unify_10 ?_
  refine x_iconst (v := 1) C dM_unify_13 (by decide) ?_
  refine x_iload_n C dM_unify_14 rfl 3 rfl ?_
  obtain ⟨g3, h⟩ := h
  refine y_is C 72 (by decide) g3 dM_unify_15 (fun r4 er4 => ?_)
  have h := h r4 er4
  obtain ⟨n46, h⟩ := h
  refine x_sub [1, 0] rfl ?_
  refine tM_unify_L16 C (fun r h => ?_) n46 r4 2 h
  · exact x_vret C hA hlocks hr ⟨r, rfl, h⟩ dM_unify_260
set_option maxRecDepth 100000 in
set_option maxHeartbeats 4000000 in
theorem kM_unify {p : Program} {l : Launch} {e : Env} {R : Room} {s : State} {m : MethodId} {args : Array Value} {below : List Frame} {meth : Method} {c : Code} {cells slots : Nat} {Q : State → Prop} {A : Nat → Prop} {D : va_G} {nL pc : Nat} {cc : ByteArray} {cw : Cond} {own : String} {lv : List (Nat × Value)} {st : List Value} {G : G_} {a : L_} {r : S_} {K : S_ → Prop} {p0 : Int32} {p1 : Int32} (C : vx_C p s m args c cc nL (cw :: wAll) own D vwCl (tysG G) nwAll A) {i : Nat} (hl : Cond.methodLink own i yM_unify ∈ wAll) (hR : 1 + 1 ≤ R.frames ∧ 8 + (7 + 11) + 22 ≤ R.locals) (hst : (st.map fun v => v.category).sum ≤ 8) (hd : decode cc pc = .ok (.invokevirtual i, 3)) (hcs : cells ≤ R.cells ∧ slots ≤ R.slots) (h : qM_unify a K r p0 p1) (k : ∀ (r1 : S_), K r1 → vx_V p l e R s m args below meth c A D vwCl nL cells slots Q (wo G a r1) (pc + 3) lv st) : vx_V p l e R s m args below meth c A D vwCl nL cells slots Q (wo G a r) pc lv (.int p1 :: .int p0 :: .ref (ob G 7) :: st) := by
  refine x_callVv C (CC := "ClassInferenceModel") (ci := 7) (q0 := 7) (fs := fl7 G a r) (As := [.int p0, .int p1]) rfl rfl (cM_unify p0 p1 h) (cwV (C := "ClassInferenceModel") 2 C.1.2.2.2.2 (goodV hl wm1096 wp59 wm9 wm1097) rfl rfl rfl (by decide +kernel) hR) rfl hst hd hcs (fun w hw => ?_)
  obtain ⟨r1, rfl, h⟩ := hw
  exact k r1 h
def qM_isTold_J17 (a : L_) (r : S_) (K : Int32 → Prop) : Prop :=
  zb 1 ∧ K 1
set_option maxRecDepth 100000 in
set_option maxHeartbeats 4000000 in
theorem tM_isTold_J17 (C : vx_C p s m args c prog_9_method_27_code 2 (Cond.code yM_isTold prog_9_method_27_code 2 (some .boolean) :: wAll) "ClassInferenceModel" D vwCl (tysG G) nwAll A) (hA : A = va_A ws0 s.heap.size) (hlocks : meth.locks = false) (hr : meth.sig.returnType = (some .boolean)) {a : L_} {r : S_} {K : Int32 → Prop} (h : qM_isTold_J17 a r K ) : vx_V p l e { frames := 1, cells := 0, slots := 0, locals := 22 } s m args below meth c A D vwCl 2 0 0 (MQ below (va_Qi (fun v w => w = wo G a r ∧ zb v ∧ K v) (vx_B D vwCl (tysG G) A) A) args s 0 0 A) (wo G a r) 17 [] [] := by
  unfold qM_isTold_J17 at h
  refine x_iconst (v := 1) C dM_isTold_17 (by decide) ?_
  refine x_goto (tgt := 22) C dM_isTold_18 (by decide) ?_
  obtain ⟨g2, h⟩ := h
  exact x_zret C hA hlocks hr (zb_n g2) ⟨rfl, g2, h⟩ dM_isTold_22
def qM_isTold (a : L_) (r : S_) (K : Int32 → Prop) (p0 : Int32) : Prop :=
  ((p0 < 0) → qM_isTold_J17 a r K) ∧ ((¬ p0 < 0) → qM_find a r (fun z3 => vp_in z3 (ln a 87) ∧ (((ar r 87 z3.toNatClampNeg) = 0) → zb 0 ∧ K 0) ∧ ((¬ (ar r 87 z3.toNatClampNeg) = 0) → qM_isTold_J17 a r K)) p0)
set_option maxRecDepth 100000 in
set_option maxHeartbeats 4000000 in
theorem cM_isTold {a : L_} {r : S_} {K : Int32 → Prop} (p0 : Int32) (h : qM_isTold a r K p0) : vx_Mi l yM_isTold (Cond.code yM_isTold prog_9_method_27_code 2 (some .boolean) :: wAll) { frames := 1, cells := 0, slots := 0, locals := 22 } D vwCl (tysG G) nwAll (wo G a r) [.ref (ob G 7), .int p0] 0 0 (fun v w => w = wo G a r ∧ zb v ∧ K v) := by
  unfold qM_isTold at h
  refine x_meti (cc := prog_9_method_27_code) (maxL := 2) (ret := (some .boolean)) (lv0 := [(0, .ref (ob G 7)), (1, .int p0)]) (by decide) rfl (Nat.le_of_ble_eq_true rfl) rfl ?_
  intro p e s m args below meth c A C hA hlocks hr
  refine x_iload_n C dM_isTold_0 rfl 1 rfl ?_
  refine x_if_lt (tgt := 17) C dM_isTold_1 (by decide) (fun g1 => ?_) (fun g1 => ?_)
  · have h := h.1 g1
    refine x_sub [] rfl ?_
    exact tM_isTold_J17 C hA hlocks hr h
  · have h := h.2 g1
    refine x_aload_n C dM_isTold_4 rfl 0 rfl ?_
    refine gf_7_45 C (List.mem_cons_of_mem _ wm761) dM_isTold_5 ?_
    refine x_aload_n C dM_isTold_8 rfl 0 rfl ?_
    refine x_iload_n C dM_isTold_9 rfl 1 rfl ?_
    refine kM_find C wm1039 ⟨Nat.le_of_ble_eq_true rfl, Nat.le_of_ble_eq_true rfl⟩ (Nat.le_of_ble_eq_true rfl) dM_isTold_10 ⟨Nat.zero_le _, Nat.zero_le _⟩ h (fun z3 h => ?_)
    obtain ⟨g4, h⟩ := h
    refine y_za C 87 (by decide) g4 dM_isTold_13 ?_
    refine x_if_eq (tgt := 21) C dM_isTold_14 (by decide) (fun g5 => ?_) (fun g5 => ?_)
    · have h := h.1 g5
      refine x_iconst (v := 0) C dM_isTold_21 (by decide) ?_
      obtain ⟨g6, h⟩ := h
      exact x_zret C hA hlocks hr (zb_n g6) ⟨rfl, g6, h⟩ dM_isTold_22
    · have h := h.2 g5
      refine x_sub [] rfl ?_
      exact tM_isTold_J17 C hA hlocks hr h
set_option maxRecDepth 100000 in
set_option maxHeartbeats 4000000 in
theorem kM_isTold {p : Program} {l : Launch} {e : Env} {R : Room} {s : State} {m : MethodId} {args : Array Value} {below : List Frame} {meth : Method} {c : Code} {cells slots : Nat} {Q : State → Prop} {A : Nat → Prop} {D : va_G} {nL pc : Nat} {cc : ByteArray} {cw : Cond} {own : String} {lv : List (Nat × Value)} {st : List Value} {G : G_} {a : L_} {r : S_} {K : Int32 → Prop} {p0 : Int32} (C : vx_C p s m args c cc nL (cw :: wAll) own D vwCl (tysG G) nwAll A) {i : Nat} (hl : Cond.methodLink own i yM_isTold ∈ wAll) (hR : 1 + 1 ≤ R.frames ∧ 8 + (2 + 11) + 22 ≤ R.locals) (hst : (st.map fun v => v.category).sum ≤ 8) (hd : decode cc pc = .ok (.invokevirtual i, 3)) (hcs : cells ≤ R.cells ∧ slots ≤ R.slots) (h : qM_isTold a r K p0) (k : ∀ (v : Int32), zb v → K v → vx_V p l e R s m args below meth c A D vwCl nL cells slots Q (wo G a r) (pc + 3) lv (.int v :: st)) : vx_V p l e R s m args below meth c A D vwCl nL cells slots Q (wo G a r) pc lv (.int p0 :: .ref (ob G 7) :: st) := by
  refine x_callVi C (CC := "ClassInferenceModel") (ci := 7) (q0 := 7) (fs := fl7 G a r) (As := [.int p0]) rfl rfl (cM_isTold p0 h) (cwV (C := "ClassInferenceModel") 1 C.1.2.2.2.2 (goodV hl wm1080 wp55 wm9 wm1081) rfl rfl rfl (by decide +kernel) hR) rfl hst hd hcs (fun v w hw => ?_)
  obtain ⟨rfl, h⟩ := hw
  exact k v h.1 h.2
end MTH
