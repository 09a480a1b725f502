section MTH
variable {p : Program} {l : Launch} {e : Env} {s : State} {m : MethodId} {args : Array Value} {below : List Frame} {meth : Method} {c : Code} {Q : State → Prop} {A : Nat → Prop} {D : va_G} {G : G_} {ws0 : va_W}
def qM_is_J245 (a : L_) (KB81 : S_ → Int32 → Int32 → Int32 → Int32 → Int32 → Int32 → Prop) (KX253 : S_ → Int32 → Int32 → Int32 → Int32 → Int32 → Prop) (r : S_) (v1 : Int32) (v2 : Int32) (v3 : Int32) (v4 : Int32) (v6 : Int32) (u0 : Int32) : Prop :=
  KB81 r v1 v2 v3 v4 u0 (v6 + 1)
set_option maxRecDepth 100000 in
set_option maxHeartbeats 4000000 in
theorem tM_is_J245 (C : vx_C p s m args c prog_9_method_51_code 11 (Cond.code yM_is prog_9_method_51_code 11 (some .int) :: wAll) "ClassInferenceModel" D vwCl (tysG G) nwAll A) {a : L_} {KB81 : S_ → Int32 → Int32 → Int32 → Int32 → Int32 → Int32 → Prop} {KX253 : S_ → Int32 → Int32 → Int32 → Int32 → Int32 → Prop} (kB81 : ∀ (r : S_) (v1 : Int32) (v2 : Int32) (v3 : Int32) (v4 : Int32) (v5 : Int32) (v6 : Int32), KB81 r v1 v2 v3 v4 v5 v6 → vx_V p l e { frames := 1, cells := 0, slots := 0, locals := 22 } s m args below meth c A D vwCl 11 0 0 Q (wo G a r) 81 [(0, .ref (ob G 7)), (1, .int v1), (2, .int v2), (3, .int v3), (4, .int v4), (5, .int v5), (6, .int v6)] []) (kX253 : ∀ (r : S_) (v1 : Int32) (v2 : Int32) (v3 : Int32) (v4 : Int32) (v5 : Int32), KX253 r v1 v2 v3 v4 v5 → vx_V p l e { frames := 1, cells := 0, slots := 0, locals := 22 } s m args below meth c A D vwCl 11 0 0 Q (wo G a r) 253 [(0, .ref (ob G 7)), (1, .int v1), (2, .int v2), (3, .int v3), (4, .int v4), (5, .int v5)] []) (r : S_) (v1 : Int32) (v2 : Int32) (v3 : Int32) (v4 : Int32) (v6 : Int32) (u0 : Int32) (h : qM_is_J245 a KB81 KX253 r v1 v2 v3 v4 v6 u0) : vx_V p l e { frames := 1, cells := 0, slots := 0, locals := 22 } s m args below meth c A D vwCl 11 0 0 Q (wo G a r) 245 [(0, .ref (ob G 7)), (1, .int v1), (2, .int v2), (3, .int v3), (4, .int v4), (6, .int v6)] [.int u0] := by
  unfold qM_is_J245 at h
  refine x_istore C [(5, .int u0), (0, .ref (ob G 7)), (1, .int v1), (2, .int v2), (3, .int v3), (4, .int v4), (6, .int v6)] dM_is_245 (by decide) rfl ?_
  refine x_iinc (j := 6) (v := v6 + 1) C [(6, .int (v6 + 1)), (5, .int u0), (0, .ref (ob G 7)), (1, .int v1), (2, .int v2), (3, .int v3), (4, .int v4)] dM_is_247 rfl rfl (by decide) rfl ?_
  refine x_goto (tgt := 81) C dM_is_250 (by decide) ?_
  refine x_sub [2, 3, 4, 5, 6, 1, 0] rfl ?_
  exact kB81 r v1 v2 v3 v4 u0 (v6 + 1) h
def qM_is_J226 (a : L_) (KB81 : S_ → Int32 → Int32 → Int32 → Int32 → Int32 → Int32 → Prop) (KX253 : S_ → Int32 → Int32 → Int32 → Int32 → Int32 → Prop) (r : S_) (v1 : Int32) (v2 : Int32) (v3 : Int32) (v4 : Int32) (v5 : Int32) (v6 : Int32) (u0 : Int32) : Prop :=
  ((u0 = 0) → qM_is_J245 a KB81 KX253 r v1 v2 v3 v4 v6 v5) ∧ ((¬ u0 = 0) → qM_is_J245 a KB81 KX253 r v1 v2 v3 v4 v6 (v5 ||| (1 <<< (v6 &&& 31))))
set_option maxRecDepth 100000 in
set_option maxHeartbeats 4000000 in
theorem tM_is_J226 (C : vx_C p s m args c prog_9_method_51_code 11 (Cond.code yM_is prog_9_method_51_code 11 (some .int) :: wAll) "ClassInferenceModel" D vwCl (tysG G) nwAll A) {a : L_} {KB81 : S_ → Int32 → Int32 → Int32 → Int32 → Int32 → Int32 → Prop} {KX253 : S_ → Int32 → Int32 → Int32 → Int32 → Int32 → Prop} (kB81 : ∀ (r : S_) (v1 : Int32) (v2 : Int32) (v3 : Int32) (v4 : Int32) (v5 : Int32) (v6 : Int32), KB81 r v1 v2 v3 v4 v5 v6 → vx_V p l e { frames := 1, cells := 0, slots := 0, locals := 22 } s m args below meth c A D vwCl 11 0 0 Q (wo G a r) 81 [(0, .ref (ob G 7)), (1, .int v1), (2, .int v2), (3, .int v3), (4, .int v4), (5, .int v5), (6, .int v6)] []) (kX253 : ∀ (r : S_) (v1 : Int32) (v2 : Int32) (v3 : Int32) (v4 : Int32) (v5 : Int32), KX253 r v1 v2 v3 v4 v5 → vx_V p l e { frames := 1, cells := 0, slots := 0, locals := 22 } s m args below meth c A D vwCl 11 0 0 Q (wo G a r) 253 [(0, .ref (ob G 7)), (1, .int v1), (2, .int v2), (3, .int v3), (4, .int v4), (5, .int v5)] []) (r : S_) (v1 : Int32) (v2 : Int32) (v3 : Int32) (v4 : Int32) (v5 : Int32) (v6 : Int32) (u0 : Int32) (h : qM_is_J226 a KB81 KX253 r v1 v2 v3 v4 v5 v6 u0) : vx_V p l e { frames := 1, cells := 0, slots := 0, locals := 22 } s m args below meth c A D vwCl 11 0 0 Q (wo G a r) 226 [(0, .ref (ob G 7)), (1, .int v1), (2, .int v2), (3, .int v3), (4, .int v4), (5, .int v5), (6, .int v6)] [.int u0] := by
  unfold qM_is_J226 at h
  refine x_istore C [(10, .int u0), (0, .ref (ob G 7)), (1, .int v1), (2, .int v2), (3, .int v3), (4, .int v4), (5, .int v5), (6, .int v6)] dM_is_226 (by decide) rfl ?_
  refine x_iload C dM_is_228 0 rfl ?_
  refine x_if_eq (tgt := 243) C dM_is_230 (by decide) (fun g25 => ?_) (fun g25 => ?_)
  · have h := h.1 g25
    refine x_iload C dM_is_243 6 rfl ?_
    refine x_sub [1, 2, 3, 4, 5, 7] rfl ?_
    exact tM_is_J245 C kB81 kX253 r v1 v2 v3 v4 v6 v5 h
  · have h := h.2 g25
    refine x_iload C dM_is_233 6 rfl ?_
    refine x_iconst (v := 1) C dM_is_235 (by decide) ?_
    refine x_iload C dM_is_236 7 rfl ?_
    refine x_ishl C dM_is_238 ?_
    refine x_ior C dM_is_239 ?_
    refine x_goto (tgt := 245) C dM_is_240 (by decide) ?_
    refine x_sub [1, 2, 3, 4, 5, 7] rfl ?_
    exact tM_is_J245 C kB81 kX253 r v1 v2 v3 v4 v6 (v5 ||| (1 <<< (v6 &&& 31))) h
def qM_is_J225 (a : L_) (KB81 : S_ → Int32 → Int32 → Int32 → Int32 → Int32 → Int32 → Prop) (KX253 : S_ → Int32 → Int32 → Int32 → Int32 → Int32 → Prop) (r : S_) (v1 : Int32) (v2 : Int32) (v3 : Int32) (v4 : Int32) (v5 : Int32) (v6 : Int32) : Prop :=
  qM_is_J226 a KB81 KX253 r v1 v2 v3 v4 v5 v6 0
set_option maxRecDepth 100000 in
set_option maxHeartbeats 4000000 in
theorem tM_is_J225 (C : vx_C p s m args c prog_9_method_51_code 11 (Cond.code yM_is prog_9_method_51_code 11 (some .int) :: wAll) "ClassInferenceModel" D vwCl (tysG G) nwAll A) {a : L_} {KB81 : S_ → Int32 → Int32 → Int32 → Int32 → Int32 → Int32 → Prop} {KX253 : S_ → Int32 → Int32 → Int32 → Int32 → Int32 → Prop} (kB81 : ∀ (r : S_) (v1 : Int32) (v2 : Int32) (v3 : Int32) (v4 : Int32) (v5 : Int32) (v6 : Int32), KB81 r v1 v2 v3 v4 v5 v6 → vx_V p l e { frames := 1, cells := 0, slots := 0, locals := 22 } s m args below meth c A D vwCl 11 0 0 Q (wo G a r) 81 [(0, .ref (ob G 7)), (1, .int v1), (2, .int v2), (3, .int v3), (4, .int v4), (5, .int v5), (6, .int v6)] []) (kX253 : ∀ (r : S_) (v1 : Int32) (v2 : Int32) (v3 : Int32) (v4 : Int32) (v5 : Int32), KX253 r v1 v2 v3 v4 v5 → vx_V p l e { frames := 1, cells := 0, slots := 0, locals := 22 } s m args below meth c A D vwCl 11 0 0 Q (wo G a r) 253 [(0, .ref (ob G 7)), (1, .int v1), (2, .int v2), (3, .int v3), (4, .int v4), (5, .int v5)] []) (r : S_) (v1 : Int32) (v2 : Int32) (v3 : Int32) (v4 : Int32) (v5 : Int32) (v6 : Int32) (h : qM_is_J225 a KB81 KX253 r v1 v2 v3 v4 v5 v6) : vx_V p l e { frames := 1, cells := 0, slots := 0, locals := 22 } s m args below meth c A D vwCl 11 0 0 Q (wo G a r) 225 [(0, .ref (ob G 7)), (1, .int v1), (2, .int v2), (3, .int v3), (4, .int v4), (5, .int v5), (6, .int v6)] [] := by
  unfold qM_is_J225 at h
  refine x_iconst (v := 0) C dM_is_225 (by decide) ?_
  refine x_sub [0, 1, 2, 3, 4, 5, 6] rfl ?_
  exact tM_is_J226 C kB81 kX253 r v1 v2 v3 v4 v5 v6 0 h
def qM_is_J179 (a : L_) (KB81 : S_ → Int32 → Int32 → Int32 → Int32 → Int32 → Int32 → Prop) (KX253 : S_ → Int32 → Int32 → Int32 → Int32 → Int32 → Prop) (r : S_) (v1 : Int32) (v2 : Int32) (v3 : Int32) (v4 : Int32) (v5 : Int32) (v6 : Int32) (v7 : Int32) (v8 : Int32) (u0 : Int32) : Prop :=
  vp_in v7 (ln a 86) ∧ (((ar r 86 v7.toNatClampNeg) = 0) → qM_is_J225 a KB81 KX253 r v1 v2 v3 v4 v5 v6) ∧ ((¬ (ar r 86 v7.toNatClampNeg) = 0) → vp_in v7 (ln a 43) ∧ ((¬ ((ar r 43 v7.toNatClampNeg) &&& (v8 ^^^ (-1))) = 0) → qM_is_J225 a KB81 KX253 r v1 v2 v3 v4 v5 v6) ∧ ((((ar r 43 v7.toNatClampNeg) &&& (v8 ^^^ (-1))) = 0) → vp_in v7 (ln a 44) ∧ ((¬ ((ar r 44 v7.toNatClampNeg) &&& (u0 ^^^ (-1))) = 0) → qM_is_J225 a KB81 KX253 r v1 v2 v3 v4 v5 v6) ∧ ((((ar r 44 v7.toNatClampNeg) &&& (u0 ^^^ (-1))) = 0) → qM_is_J226 a KB81 KX253 r v1 v2 v3 v4 v5 v6 1)))
set_option maxRecDepth 100000 in
set_option maxHeartbeats 4000000 in
theorem tM_is_J179 (C : vx_C p s m args c prog_9_method_51_code 11 (Cond.code yM_is prog_9_method_51_code 11 (some .int) :: wAll) "ClassInferenceModel" D vwCl (tysG G) nwAll A) {a : L_} {KB81 : S_ → Int32 → Int32 → Int32 → Int32 → Int32 → Int32 → Prop} {KX253 : S_ → Int32 → Int32 → Int32 → Int32 → Int32 → Prop} (kB81 : ∀ (r : S_) (v1 : Int32) (v2 : Int32) (v3 : Int32) (v4 : Int32) (v5 : Int32) (v6 : Int32), KB81 r v1 v2 v3 v4 v5 v6 → vx_V p l e { frames := 1, cells := 0, slots := 0, locals := 22 } s m args below meth c A D vwCl 11 0 0 Q (wo G a r) 81 [(0, .ref (ob G 7)), (1, .int v1), (2, .int v2), (3, .int v3), (4, .int v4), (5, .int v5), (6, .int v6)] []) (kX253 : ∀ (r : S_) (v1 : Int32) (v2 : Int32) (v3 : Int32) (v4 : Int32) (v5 : Int32), KX253 r v1 v2 v3 v4 v5 → vx_V p l e { frames := 1, cells := 0, slots := 0, locals := 22 } s m args below meth c A D vwCl 11 0 0 Q (wo G a r) 253 [(0, .ref (ob G 7)), (1, .int v1), (2, .int v2), (3, .int v3), (4, .int v4), (5, .int v5)] []) (r : S_) (v1 : Int32) (v2 : Int32) (v3 : Int32) (v4 : Int32) (v5 : Int32) (v6 : Int32) (v7 : Int32) (v8 : Int32) (u0 : Int32) (h : qM_is_J179 a KB81 KX253 r v1 v2 v3 v4 v5 v6 v7 v8 u0) : vx_V p l e { frames := 1, cells := 0, slots := 0, locals := 22 } s m args below meth c A D vwCl 11 0 0 Q (wo G a r) 179 [(0, .ref (ob G 7)), (1, .int v1), (2, .int v2), (3, .int v3), (4, .int v4), (5, .int v5), (6, .int v6), (7, .int v7), (8, .int v8)] [.int u0] := by
  unfold qM_is_J179 at h
  refine x_istore C [(9, .int u0), (0, .ref (ob G 7)), (1, .int v1), (2, .int v2), (3, .int v3), (4, .int v4), (5, .int v5), (6, .int v6), (7, .int v7), (8, .int v8)] dM_is_179 (by decide) rfl ?_
  refine x_aload_n C dM_is_181 rfl 1 rfl ?_
  refine gf_7_12 C (List.mem_cons_of_mem _ wm728) dM_is_182 ?_
  refine x_iload C dM_is_185 8 rfl ?_
  obtain ⟨g23, h⟩ := h
  refine y_za C 86 (by decide) g23 dM_is_187 ?_
  refine x_if_eq (tgt := 225) C dM_is_188 (by decide) (fun g24 => ?_) (fun g24 => ?_)
  · have h := h.1 g24
    refine x_sub [1, 2, 3, 4, 5, 6, 7] rfl ?_
    exact tM_is_J225 C kB81 kX253 r v1 v2 v3 v4 v5 v6 h
  · have h := h.2 g24
    refine x_aload_n C dM_is_191 rfl 1 rfl ?_
    refine gf_7_13 C (List.mem_cons_of_mem _ wm729) dM_is_192 ?_
    refine x_iload C dM_is_195 8 rfl ?_
    obtain ⟨g26, h⟩ := h
    refine y_ia C 43 (by decide) g26 dM_is_197 ?_
    refine x_iload C dM_is_198 9 rfl ?_
    refine x_iconst (v := (-1)) C dM_is_200 (by decide) ?_
    refine x_ixor C dM_is_201 ?_
    refine x_iand C dM_is_202 ?_
    refine x_if_ne (tgt := 225) C dM_is_203 (by decide) (fun g27 => ?_) (fun g27 => ?_)
    · have h := h.1 g27
      refine x_sub [1, 2, 3, 4, 5, 6, 7] rfl ?_
      exact tM_is_J225 C kB81 kX253 r v1 v2 v3 v4 v5 v6 h
    · have h := h.2 g27
      refine x_aload_n C dM_is_206 rfl 1 rfl ?_
      refine gf_7_14 C (List.mem_cons_of_mem _ wm730) dM_is_207 ?_
      refine x_iload C dM_is_210 8 rfl ?_
      obtain ⟨g28, h⟩ := h
      refine y_ia C 44 (by decide) g28 dM_is_212 ?_
      refine x_iload C dM_is_213 0 rfl ?_
      refine x_iconst (v := (-1)) C dM_is_215 (by decide) ?_
      refine x_ixor C dM_is_216 ?_
      refine x_iand C dM_is_217 ?_
      refine x_if_ne (tgt := 225) C dM_is_218 (by decide) (fun g29 => ?_) (fun g29 => ?_)
      · have h := h.1 g29
        refine x_sub [1, 2, 3, 4, 5, 6, 7] rfl ?_
        exact tM_is_J225 C kB81 kX253 r v1 v2 v3 v4 v5 v6 h
      · have h := h.2 g29
        refine x_iconst (v := 1) C dM_is_221 (by decide) ?_
        refine x_goto (tgt := 226) C dM_is_222 (by decide) ?_
        refine x_sub [1, 2, 3, 4, 5, 6, 7] rfl ?_
        exact tM_is_J226 C kB81 kX253 r v1 v2 v3 v4 v5 v6 1 h
def qM_is_J151 (a : L_) (KB81 : S_ → Int32 → Int32 → Int32 → Int32 → Int32 → Int32 → Prop) (KX253 : S_ → Int32 → Int32 → Int32 → Int32 → Int32 → Prop) (r : S_) (v1 : Int32) (v2 : Int32) (v3 : Int32) (v4 : Int32) (v5 : Int32) (v6 : Int32) (v7 : Int32) (u0 : Int32) : Prop :=
  vp_in v4 (ln a 39) ∧ ((0 ≤ (ar r 39 v4.toNatClampNeg)) → vp_in v4 (ln a 39) ∧ vp_in (ar r 39 v4.toNatClampNeg) (ln a 74) ∧ qM_is_J179 a KB81 KX253 r v1 v2 v3 v4 v5 v6 v7 u0 (ar r 74 (ar r 39 v4.toNatClampNeg).toNatClampNeg)) ∧ ((¬ 0 ≤ (ar r 39 v4.toNatClampNeg)) → qM_is_J179 a KB81 KX253 r v1 v2 v3 v4 v5 v6 v7 u0 0)
set_option maxRecDepth 100000 in
set_option maxHeartbeats 4000000 in
theorem tM_is_J151 (C : vx_C p s m args c prog_9_method_51_code 11 (Cond.code yM_is prog_9_method_51_code 11 (some .int) :: wAll) "ClassInferenceModel" D vwCl (tysG G) nwAll A) {a : L_} {KB81 : S_ → Int32 → Int32 → Int32 → Int32 → Int32 → Int32 → Prop} {KX253 : S_ → Int32 → Int32 → Int32 → Int32 → Int32 → Prop} (kB81 : ∀ (r : S_) (v1 : Int32) (v2 : Int32) (v3 : Int32) (v4 : Int32) (v5 : Int32) (v6 : Int32), KB81 r v1 v2 v3 v4 v5 v6 → vx_V p l e { frames := 1, cells := 0, slots := 0, locals := 22 } s m args below meth c A D vwCl 11 0 0 Q (wo G a r) 81 [(0, .ref (ob G 7)), (1, .int v1), (2, .int v2), (3, .int v3), (4, .int v4), (5, .int v5), (6, .int v6)] []) (kX253 : ∀ (r : S_) (v1 : Int32) (v2 : Int32) (v3 : Int32) (v4 : Int32) (v5 : Int32), KX253 r v1 v2 v3 v4 v5 → vx_V p l e { frames := 1, cells := 0, slots := 0, locals := 22 } s m args below meth c A D vwCl 11 0 0 Q (wo G a r) 253 [(0, .ref (ob G 7)), (1, .int v1), (2, .int v2), (3, .int v3), (4, .int v4), (5, .int v5)] []) (r : S_) (v1 : Int32) (v2 : Int32) (v3 : Int32) (v4 : Int32) (v5 : Int32) (v6 : Int32) (v7 : Int32) (u0 : Int32) (h : qM_is_J151 a KB81 KX253 r v1 v2 v3 v4 v5 v6 v7 u0) : vx_V p l e { frames := 1, cells := 0, slots := 0, locals := 22 } s m args below meth c A D vwCl 11 0 0 Q (wo G a r) 151 [(0, .ref (ob G 7)), (1, .int v1), (2, .int v2), (3, .int v3), (4, .int v4), (5, .int v5), (6, .int v6), (7, .int v7)] [.int u0] := by
  unfold qM_is_J151 at h
  refine x_istore C [(8, .int u0), (0, .ref (ob G 7)), (1, .int v1), (2, .int v2), (3, .int v3), (4, .int v4), (5, .int v5), (6, .int v6), (7, .int v7)] dM_is_151 (by decide) rfl ?_
  refine x_aload_n C dM_is_153 rfl 1 rfl ?_
  refine gf_7_6 C (List.mem_cons_of_mem _ wm722) dM_is_154 ?_
  refine x_iload C dM_is_157 5 rfl ?_
  obtain ⟨g19, h⟩ := h
  refine y_ia C 39 (by decide) g19 dM_is_159 ?_
  refine x_if_ge (tgt := 167) C dM_is_160 (by decide) (fun g20 => ?_) (fun g20 => ?_)
  · have h := h.1 g20
    refine x_aload_n C dM_is_167 rfl 1 rfl ?_
    refine gf_7_51 C (List.mem_cons_of_mem _ wm767) dM_is_168 ?_
    refine x_aload_n C dM_is_171 rfl 1 rfl ?_
    refine gf_7_6 C (List.mem_cons_of_mem _ wm722) dM_is_172 ?_
    refine x_iload C dM_is_175 5 rfl ?_
    obtain ⟨g21, h⟩ := h
    refine y_ia C 39 (by decide) g21 dM_is_177 ?_
    obtain ⟨g22, h⟩ := h
    refine y_ia C 74 (by decide) g22 dM_is_178 ?_
    refine x_sub [1, 2, 3, 4, 5, 6, 7, 8, 0] rfl ?_
    exact tM_is_J179 C kB81 kX253 r v1 v2 v3 v4 v5 v6 v7 u0 (ar r 74 (ar r 39 v4.toNatClampNeg).toNatClampNeg) h
  · have h := h.2 g20
    refine x_iconst (v := 0) C dM_is_163 (by decide) ?_
    refine x_goto (tgt := 179) C dM_is_164 (by decide) ?_
    refine x_sub [1, 2, 3, 4, 5, 6, 7, 8, 0] rfl ?_
    exact tM_is_J179 C kB81 kX253 r v1 v2 v3 v4 v5 v6 v7 u0 0 h
def qM_is_L81 (a : L_) (KX253 : S_ → Int32 → Int32 → Int32 → Int32 → Int32 → Prop) : Nat → S_ → Int32 → Int32 → Int32 → Int32 → Int32 → Int32 → Prop
  | 0, _, _, _, _, _, _, _ => False
  | n + 1, r, v1, v2, v3, v4, v5, v6 => (((fi r 23) ≤ v6) → KX253 r v1 v2 v3 v4 v5) ∧ ((¬ (fi r 23) ≤ v6) → vp_in v4 (ln a 88) ∧ (((ar r 88 v4.toNatClampNeg) = 0) → KX253 r v1 v2 v3 v4 v5) ∧ ((¬ (ar r 88 v4.toNatClampNeg) = 0) → vp_in v4 (ln a 37) ∧ (((ar r 37 v4.toNatClampNeg) < 0) → KX253 r v1 v2 v3 v4 v5) ∧ ((¬ (ar r 37 v4.toNatClampNeg) < 0) → vp_in v4 (ln a 37) ∧ vp_in v4 (ln a 38) ∧ ((0 ≤ (ar r 38 v4.toNatClampNeg)) → vp_in v4 (ln a 38) ∧ vp_in (ar r 38 v4.toNatClampNeg) (ln a 74) ∧ qM_is_J151 a (qM_is_L81 a KX253 n) KX253 r v1 v2 v3 v4 v5 v6 ((8 * v6) + (ar r 37 v4.toNatClampNeg)) (ar r 74 (ar r 38 v4.toNatClampNeg).toNatClampNeg)) ∧ ((¬ 0 ≤ (ar r 38 v4.toNatClampNeg)) → qM_is_J151 a (qM_is_L81 a KX253 n) KX253 r v1 v2 v3 v4 v5 v6 ((8 * v6) + (ar r 37 v4.toNatClampNeg)) 0))))
set_option maxRecDepth 100000 in
set_option maxHeartbeats 4000000 in
theorem tM_is_L81 (C : vx_C p s m args c prog_9_method_51_code 11 (Cond.code yM_is prog_9_method_51_code 11 (some .int) :: wAll) "ClassInferenceModel" D vwCl (tysG G) nwAll A) {a : L_} {KX253 : S_ → Int32 → Int32 → Int32 → Int32 → Int32 → Prop} (kX253 : ∀ (r : S_) (v1 : Int32) (v2 : Int32) (v3 : Int32) (v4 : Int32) (v5 : Int32), KX253 r v1 v2 v3 v4 v5 → vx_V p l e { frames := 1, cells := 0, slots := 0, locals := 22 } s m args below meth c A D vwCl 11 0 0 Q (wo G a r) 253 [(0, .ref (ob G 7)), (1, .int v1), (2, .int v2), (3, .int v3), (4, .int v4), (5, .int v5)] []) : ∀ (n : Nat) (r : S_) (v1 : Int32) (v2 : Int32) (v3 : Int32) (v4 : Int32) (v5 : Int32) (v6 : Int32), qM_is_L81 a KX253 n r v1 v2 v3 v4 v5 v6 → vx_V p l e { frames := 1, cells := 0, slots := 0, locals := 22 } s m args below meth c A D vwCl 11 0 0 Q (wo G a r) 81 [(0, .ref (ob G 7)), (1, .int v1), (2, .int v2), (3, .int v3), (4, .int v4), (5, .int v5), (6, .int v6)] [] := by
  intro n
  induction n with
  | zero =>
    intro r v1 v2 v3 v4 v5 v6 h
    exact (by rw [qM_is_L81] at h; exact h : False).elim
  | succ n kB81 =>
    intro r v1 v2 v3 v4 v5 v6 h
    rw [qM_is_L81] at h
    refine x_iload C dM_is_81 6 rfl ?_
    refine x_aload_n C dM_is_83 rfl 0 rfl ?_
    refine gf_7_8 C (List.mem_cons_of_mem _ wm724) dM_is_84 ?_
    refine x_icmp_ge (tgt := 253) C dM_is_87 (by decide) (fun g9 => ?_) (fun g9 => ?_)
    · have h := h.1 g9
      refine x_sub [0, 1, 2, 3, 4, 5] rfl ?_
      exact kX253 r v1 v2 v3 v4 v5 h
    · have h := h.2 g9
      refine x_aload_n C dM_is_90 rfl 0 rfl ?_
      refine gf_7_52 C (List.mem_cons_of_mem _ wm768) dM_is_91 ?_
      refine x_iload C dM_is_94 4 rfl ?_
      obtain ⟨g10, h⟩ := h
      refine y_za C 88 (by decide) g10 dM_is_96 ?_
      refine x_if_eq (tgt := 253) C dM_is_97 (by decide) (fun g11 => ?_) (fun g11 => ?_)
      · have h := h.1 g11
        refine x_sub [0, 1, 2, 3, 4, 5] rfl ?_
        exact kX253 r v1 v2 v3 v4 v5 h
      · have h := h.2 g11
        refine x_aload_n C dM_is_100 rfl 0 rfl ?_
        refine gf_7_4 C (List.mem_cons_of_mem _ wm720) dM_is_101 ?_
        refine x_iload C dM_is_104 4 rfl ?_
        obtain ⟨g12, h⟩ := h
        refine y_ia C 37 (by decide) g12 dM_is_106 ?_
        refine x_if_lt (tgt := 253) C dM_is_107 (by decide) (fun g13 => ?_) (fun g13 => ?_)
        · have h := h.1 g13
          refine x_sub [0, 1, 2, 3, 4, 5] rfl ?_
          exact kX253 r v1 v2 v3 v4 v5 h
        · have h := h.2 g13
          refine x_bipush (v := 8) C dM_is_110 (by decide) ?_
          refine x_iload C dM_is_112 6 rfl ?_
          refine x_imul C dM_is_114 ?_
          refine x_aload_n C dM_is_115 rfl 0 rfl ?_
          refine gf_7_4 C (List.mem_cons_of_mem _ wm720) dM_is_116 ?_
          refine x_iload C dM_is_119 4 rfl ?_
          obtain ⟨g14, h⟩ := h
          refine y_ia C 37 (by decide) g14 dM_is_121 ?_
          refine x_iadd C dM_is_122 ?_
          refine x_istore C [(7, .int ((8 * v6) + (ar r 37 v4.toNatClampNeg))), (0, .ref (ob G 7)), (1, .int v1), (2, .int v2), (3, .int v3), (4, .int v4), (5, .int v5), (6, .int v6)] dM_is_123 (by decide) rfl ?_
          refine x_aload_n C dM_is_125 rfl 1 rfl ?_
          refine gf_7_5 C (List.mem_cons_of_mem _ wm721) dM_is_126 ?_
          refine x_iload C dM_is_129 5 rfl ?_
          obtain ⟨g15, h⟩ := h
          refine y_ia C 38 (by decide) g15 dM_is_131 ?_
          refine x_if_ge (tgt := 139) C dM_is_132 (by decide) (fun g16 => ?_) (fun g16 => ?_)
          · have h := h.1 g16
            refine x_aload_n C dM_is_139 rfl 1 rfl ?_
            refine gf_7_51 C (List.mem_cons_of_mem _ wm767) dM_is_140 ?_
            refine x_aload_n C dM_is_143 rfl 1 rfl ?_
            refine gf_7_5 C (List.mem_cons_of_mem _ wm721) dM_is_144 ?_
            refine x_iload C dM_is_147 5 rfl ?_
            obtain ⟨g17, h⟩ := h
            refine y_ia C 38 (by decide) g17 dM_is_149 ?_
            obtain ⟨g18, h⟩ := h
            refine y_ia C 74 (by decide) g18 dM_is_150 ?_
            refine x_sub [1, 2, 3, 4, 5, 6, 7, 0] rfl ?_
            exact tM_is_J151 C kB81 kX253 r v1 v2 v3 v4 v5 v6 ((8 * v6) + (ar r 37 v4.toNatClampNeg)) (ar r 74 (ar r 38 v4.toNatClampNeg).toNatClampNeg) h
          · have h := h.2 g16
            refine x_iconst (v := 0) C dM_is_135 (by decide) ?_
            refine x_goto (tgt := 151) C dM_is_136 (by decide) ?_
            refine x_sub [1, 2, 3, 4, 5, 6, 7, 0] rfl ?_
            exact tM_is_J151 C kB81 kX253 r v1 v2 v3 v4 v5 v6 ((8 * v6) + (ar r 37 v4.toNatClampNeg)) 0 h
def qM_is_J253 (a : L_) (KB39 : S_ → Int32 → Int32 → Int32 → Int32 → Prop) (KX268 : S_ → Int32 → Int32 → Int32 → Prop) (r : S_) (v1 : Int32) (v2 : Int32) (v3 : Int32) (v4 : Int32) (v5 : Int32) : Prop :=
  vp_in v4 (ln a 74) ∧ ∀ r31 : S_, r31 = sA r 74 (upd (ar r 74) v4.toNatClampNeg v5) → KB39 r31 v1 v2 v3 (v4 + 1)
set_option maxRecDepth 100000 in
set_option maxHeartbeats 4000000 in
theorem tM_is_J253 (C : vx_C p s m args c prog_9_method_51_code 11 (Cond.code yM_is prog_9_method_51_code 11 (some .int) :: wAll) "ClassInferenceModel" D vwCl (tysG G) nwAll A) {a : L_} {KB39 : S_ → Int32 → Int32 → Int32 → Int32 → Prop} {KX268 : S_ → Int32 → Int32 → Int32 → Prop} (kB39 : ∀ (r : S_) (v1 : Int32) (v2 : Int32) (v3 : Int32) (v4 : Int32), KB39 r v1 v2 v3 v4 → vx_V p l e { frames := 1, cells := 0, slots := 0, locals := 22 } s m args below meth c A D vwCl 11 0 0 Q (wo G a r) 39 [(0, .ref (ob G 7)), (1, .int v1), (2, .int v2), (3, .int v3), (4, .int v4)] []) (kX268 : ∀ (r : S_) (v1 : Int32) (v2 : Int32) (v3 : Int32), KX268 r v1 v2 v3 → vx_V p l e { frames := 1, cells := 0, slots := 0, locals := 22 } s m args below meth c A D vwCl 11 0 0 Q (wo G a r) 268 [(0, .ref (ob G 7)), (1, .int v1), (2, .int v2), (3, .int v3)] []) (r : S_) (v1 : Int32) (v2 : Int32) (v3 : Int32) (v4 : Int32) (v5 : Int32) (h : qM_is_J253 a KB39 KX268 r v1 v2 v3 v4 v5) : vx_V p l e { frames := 1, cells := 0, slots := 0, locals := 22 } s m args below meth c A D vwCl 11 0 0 Q (wo G a r) 253 [(0, .ref (ob G 7)), (1, .int v1), (2, .int v2), (3, .int v3), (4, .int v4), (5, .int v5)] [] := by
  unfold qM_is_J253 at h
  refine x_aload_n C dM_is_253 rfl 0 rfl ?_
  refine gf_7_51 C (List.mem_cons_of_mem _ wm767) dM_is_254 ?_
  refine x_iload C dM_is_257 4 rfl ?_
  refine x_iload C dM_is_259 5 rfl ?_
  obtain ⟨g30, h⟩ := h
  refine y_is C 74 (by decide) g30 dM_is_261 (fun r31 er31 => ?_)
  have h := h r31 er31
  refine x_iinc (j := 4) (v := v4 + 1) C [(4, .int (v4 + 1)), (0, .ref (ob G 7)), (1, .int v1), (2, .int v2), (3, .int v3), (5, .int v5)] dM_is_262 rfl rfl (by decide) rfl ?_
  refine x_goto (tgt := 39) C dM_is_265 (by decide) ?_
  refine x_sub [1, 2, 3, 4, 0] rfl ?_
  exact kB39 r31 v1 v2 v3 (v4 + 1) h
def qM_is_J74 (a : L_) (KB39 : S_ → Int32 → Int32 → Int32 → Int32 → Prop) (KX268 : S_ → Int32 → Int32 → Int32 → Prop) (r : S_) (v1 : Int32) (v2 : Int32) (v4 : Int32) (u0 : Int32) : Prop :=
  ∃ n32 : Nat, qM_is_L81 a (fun r v1 v2 v3 v4 v5 => qM_is_J253 a KB39 KX268 r v1 v2 v3 v4 v5) n32 r v1 v2 u0 v4 0 0
set_option maxRecDepth 100000 in
set_option maxHeartbeats 4000000 in
theorem tM_is_J74 (C : vx_C p s m args c prog_9_method_51_code 11 (Cond.code yM_is prog_9_method_51_code 11 (some .int) :: wAll) "ClassInferenceModel" D vwCl (tysG G) nwAll A) {a : L_} {KB39 : S_ → Int32 → Int32 → Int32 → Int32 → Prop} {KX268 : S_ → Int32 → Int32 → Int32 → Prop} (kB39 : ∀ (r : S_) (v1 : Int32) (v2 : Int32) (v3 : Int32) (v4 : Int32), KB39 r v1 v2 v3 v4 → vx_V p l e { frames := 1, cells := 0, slots := 0, locals := 22 } s m args below meth c A D vwCl 11 0 0 Q (wo G a r) 39 [(0, .ref (ob G 7)), (1, .int v1), (2, .int v2), (3, .int v3), (4, .int v4)] []) (kX268 : ∀ (r : S_) (v1 : Int32) (v2 : Int32) (v3 : Int32), KX268 r v1 v2 v3 → vx_V p l e { frames := 1, cells := 0, slots := 0, locals := 22 } s m args below meth c A D vwCl 11 0 0 Q (wo G a r) 268 [(0, .ref (ob G 7)), (1, .int v1), (2, .int v2), (3, .int v3)] []) (r : S_) (v1 : Int32) (v2 : Int32) (v4 : Int32) (u0 : Int32) (h : qM_is_J74 a KB39 KX268 r v1 v2 v4 u0) : vx_V p l e { frames := 1, cells := 0, slots := 0, locals := 22 } s m args below meth c A D vwCl 11 0 0 Q (wo G a r) 74 [(0, .ref (ob G 7)), (1, .int v1), (2, .int v2), (4, .int v4)] [.int u0] := by
  unfold qM_is_J74 at h
  refine x_istore_n C [(3, .int u0), (0, .ref (ob G 7)), (1, .int v1), (2, .int v2), (4, .int v4)] dM_is_74 rfl (by decide) rfl ?_
  refine x_iconst (v := 0) C dM_is_75 (by decide) ?_
  refine x_istore C [(5, .int 0), (3, .int u0), (0, .ref (ob G 7)), (1, .int v1), (2, .int v2), (4, .int v4)] dM_is_76 (by decide) rfl ?_
  refine x_iconst (v := 0) C dM_is_78 (by decide) ?_
  refine x_istore C [(6, .int 0), (5, .int 0), (3, .int u0), (0, .ref (ob G 7)), (1, .int v1), (2, .int v2), (4, .int v4)] dM_is_79 (by decide) rfl ?_
  obtain ⟨n32, h⟩ := h
  refine x_sub [3, 4, 5, 2, 6, 1, 0] rfl ?_
  refine tM_is_L81 C (fun r v1 v2 v3 v4 v5 h => ?_) n32 r v1 v2 u0 v4 0 0 h
  · refine x_sub [0, 1, 2, 3, 4, 5] rfl ?_
    exact tM_is_J253 C kB39 kX268 r v1 v2 v3 v4 v5 h
def qM_is_J73 (a : L_) (KB39 : S_ → Int32 → Int32 → Int32 → Int32 → Prop) (KX268 : S_ → Int32 → Int32 → Int32 → Prop) (r : S_) (v1 : Int32) (v2 : Int32) (v4 : Int32) : Prop :=
  qM_is_J74 a KB39 KX268 r v1 v2 v4 0
set_option maxRecDepth 100000 in
set_option maxHeartbeats 4000000 in
theorem tM_is_J73 (C : vx_C p s m args c prog_9_method_51_code 11 (Cond.code yM_is prog_9_method_51_code 11 (some .int) :: wAll) "ClassInferenceModel" D vwCl (tysG G) nwAll A) {a : L_} {KB39 : S_ → Int32 → Int32 → Int32 → Int32 → Prop} {KX268 : S_ → Int32 → Int32 → Int32 → Prop} (kB39 : ∀ (r : S_) (v1 : Int32) (v2 : Int32) (v3 : Int32) (v4 : Int32), KB39 r v1 v2 v3 v4 → vx_V p l e { frames := 1, cells := 0, slots := 0, locals := 22 } s m args below meth c A D vwCl 11 0 0 Q (wo G a r) 39 [(0, .ref (ob G 7)), (1, .int v1), (2, .int v2), (3, .int v3), (4, .int v4)] []) (kX268 : ∀ (r : S_) (v1 : Int32) (v2 : Int32) (v3 : Int32), KX268 r v1 v2 v3 → vx_V p l e { frames := 1, cells := 0, slots := 0, locals := 22 } s m args below meth c A D vwCl 11 0 0 Q (wo G a r) 268 [(0, .ref (ob G 7)), (1, .int v1), (2, .int v2), (3, .int v3)] []) (r : S_) (v1 : Int32) (v2 : Int32) (v4 : Int32) (h : qM_is_J73 a KB39 KX268 r v1 v2 v4) : vx_V p l e { frames := 1, cells := 0, slots := 0, locals := 22 } s m args below meth c A D vwCl 11 0 0 Q (wo G a r) 73 [(0, .ref (ob G 7)), (1, .int v1), (2, .int v2), (4, .int v4)] [] := by
  unfold qM_is_J73 at h
  refine x_iconst (v := 0) C dM_is_73 (by decide) ?_
  refine x_sub [0, 1, 2, 3] rfl ?_
  exact tM_is_J74 C kB39 kX268 r v1 v2 v4 0 h
def qM_is_J69 (a : L_) (KB39 : S_ → Int32 → Int32 → Int32 → Int32 → Prop) (KX268 : S_ → Int32 → Int32 → Int32 → Prop) (r : S_) (v1 : Int32) (v2 : Int32) (v4 : Int32) : Prop :=
  qM_is_J74 a KB39 KX268 r v1 v2 v4 1
set_option maxRecDepth 100000 in
set_option maxHeartbeats 4000000 in
theorem tM_is_J69 (C : vx_C p s m args c prog_9_method_51_code 11 (Cond.code yM_is prog_9_method_51_code 11 (some .int) :: wAll) "ClassInferenceModel" D vwCl (tysG G) nwAll A) {a : L_} {KB39 : S_ → Int32 → Int32 → Int32 → Int32 → Prop} {KX268 : S_ → Int32 → Int32 → Int32 → Prop} (kB39 : ∀ (r : S_) (v1 : Int32) (v2 : Int32) (v3 : Int32) (v4 : Int32), KB39 r v1 v2 v3 v4 → vx_V p l e { frames := 1, cells := 0, slots := 0, locals := 22 } s m args below meth c A D vwCl 11 0 0 Q (wo G a r) 39 [(0, .ref (ob G 7)), (1, .int v1), (2, .int v2), (3, .int v3), (4, .int v4)] []) (kX268 : ∀ (r : S_) (v1 : Int32) (v2 : Int32) (v3 : Int32), KX268 r v1 v2 v3 → vx_V p l e { frames := 1, cells := 0, slots := 0, locals := 22 } s m args below meth c A D vwCl 11 0 0 Q (wo G a r) 268 [(0, .ref (ob G 7)), (1, .int v1), (2, .int v2), (3, .int v3)] []) (r : S_) (v1 : Int32) (v2 : Int32) (v4 : Int32) (h : qM_is_J69 a KB39 KX268 r v1 v2 v4) : vx_V p l e { frames := 1, cells := 0, slots := 0, locals := 22 } s m args below meth c A D vwCl 11 0 0 Q (wo G a r) 69 [(0, .ref (ob G 7)), (1, .int v1), (2, .int v2), (4, .int v4)] [] := by
  unfold qM_is_J69 at h
  refine x_iconst (v := 1) C dM_is_69 (by decide) ?_
  refine x_goto (tgt := 74) C dM_is_70 (by decide) ?_
  refine x_sub [0, 1, 2, 3] rfl ?_
  exact tM_is_J74 C kB39 kX268 r v1 v2 v4 1 h
def qM_is_L39 (a : L_) (KX268 : S_ → Int32 → Int32 → Int32 → Prop) : Nat → S_ → Int32 → Int32 → Int32 → Int32 → Prop
  | 0, _, _, _, _, _ => False
  | n + 1, r, v1, v2, v3, v4 => ((v2 < v4) → KX268 r v1 v2 v3) ∧ ((¬ v2 < v4) → ((v3 = 0) → qM_is_J73 a (qM_is_L39 a KX268 n) KX268 r v1 v2 v4) ∧ ((¬ v3 = 0) → vp_in v4 (ln a 88) ∧ (((ar r 88 v4.toNatClampNeg) = 0) → qM_is_J69 a (qM_is_L39 a KX268 n) KX268 r v1 v2 v4) ∧ ((¬ (ar r 88 v4.toNatClampNeg) = 0) → vp_in v4 (ln a 37) ∧ (((ar r 37 v4.toNatClampNeg) < 0) → qM_is_J73 a (qM_is_L39 a KX268 n) KX268 r v1 v2 v4) ∧ ((¬ (ar r 37 v4.toNatClampNeg) < 0) → qM_is_J69 a (qM_is_L39 a KX268 n) KX268 r v1 v2 v4))))
set_option maxRecDepth 100000 in
set_option maxHeartbeats 4000000 in
theorem tM_is_L39 (C : vx_C p s m args c prog_9_method_51_code 11 (Cond.code yM_is prog_9_method_51_code 11 (some .int) :: wAll) "ClassInferenceModel" D vwCl (tysG G) nwAll A) {a : L_} {KX268 : S_ → Int32 → Int32 → Int32 → Prop} (kX268 : ∀ (r : S_) (v1 : Int32) (v2 : Int32) (v3 : Int32), KX268 r v1 v2 v3 → vx_V p l e { frames := 1, cells := 0, slots := 0, locals := 22 } s m args below meth c A D vwCl 11 0 0 Q (wo G a r) 268 [(0, .ref (ob G 7)), (1, .int v1), (2, .int v2), (3, .int v3)] []) : ∀ (n : Nat) (r : S_) (v1 : Int32) (v2 : Int32) (v3 : Int32) (v4 : Int32), qM_is_L39 a KX268 n r v1 v2 v3 v4 → vx_V p l e { frames := 1, cells := 0, slots := 0, locals := 22 } s m args below meth c A D vwCl 11 0 0 Q (wo G a r) 39 [(0, .ref (ob G 7)), (1, .int v1), (2, .int v2), (3, .int v3), (4, .int v4)] [] := by
  intro n
  induction n with
  | zero =>
    intro r v1 v2 v3 v4 h
    exact (by rw [qM_is_L39] at h; exact h : False).elim
  | succ n kB39 =>
    intro r v1 v2 v3 v4 h
    rw [qM_is_L39] at h
    refine x_iload C dM_is_39 4 rfl ?_
    refine x_iload_n C dM_is_41 rfl 2 rfl ?_
    refine x_icmp_gt (tgt := 268) C dM_is_42 (by decide) (fun g7 => ?_) (fun g7 => ?_)
    · have h := h.1 g7
      refine x_sub [0, 1, 2, 3] rfl ?_
      exact kX268 r v1 v2 v3 h
    · have h := h.2 g7
      refine x_iload_n C dM_is_45 rfl 3 rfl ?_
      refine x_if_eq (tgt := 73) C dM_is_46 (by decide) (fun g8 => ?_) (fun g8 => ?_)
      · have h := h.1 g8
        refine x_sub [0, 1, 2, 4] rfl ?_
        exact tM_is_J73 C kB39 kX268 r v1 v2 v4 h
      · have h := h.2 g8
        refine x_aload_n C dM_is_49 rfl 0 rfl ?_
        refine gf_7_52 C (List.mem_cons_of_mem _ wm768) dM_is_50 ?_
        refine x_iload C dM_is_53 4 rfl ?_
        obtain ⟨g33, h⟩ := h
        refine y_za C 88 (by decide) g33 dM_is_55 ?_
        refine x_if_eq (tgt := 69) C dM_is_56 (by decide) (fun g34 => ?_) (fun g34 => ?_)
        · have h := h.1 g34
          refine x_sub [0, 1, 2, 4] rfl ?_
          exact tM_is_J69 C kB39 kX268 r v1 v2 v4 h
        · have h := h.2 g34
          refine x_aload_n C dM_is_59 rfl 0 rfl ?_
          refine gf_7_4 C (List.mem_cons_of_mem _ wm720) dM_is_60 ?_
          refine x_iload C dM_is_63 4 rfl ?_
          obtain ⟨g35, h⟩ := h
          refine y_ia C 37 (by decide) g35 dM_is_65 ?_
          refine x_if_lt (tgt := 73) C dM_is_66 (by decide) (fun g36 => ?_) (fun g36 => ?_)
          · have h := h.1 g36
            refine x_sub [0, 1, 2, 4] rfl ?_
            exact tM_is_J73 C kB39 kX268 r v1 v2 v4 h
          · have h := h.2 g36
            refine x_sub [0, 1, 2, 4] rfl ?_
            exact tM_is_J69 C kB39 kX268 r v1 v2 v4 h
def qM_is (a : L_) (K : Int32 → S_ → Prop) (r : S_) (p0 : Int32) (p1 : Int32) : Prop :=
  ∀ r1 : S_, r1 = sF r 20 0 → qM_isClass a r1 (fun z2 => zb z2 → ((z2 = 0) → K (-1) r1) ∧ ((¬ z2 = 0) → qM_in a r1 (fun z4 => zb z4 → ((¬ z4 = 0) → qM_markStatic a (fun r6 => ∃ n39 : Nat, qM_is_L39 a (fun r v1 v2 v3 => ((¬ v3 = 0) → vp_in v2 (ln a 74) ∧ K (((ar r 74 v2.toNatClampNeg) >>> (v1 &&& 31)) &&& 1) r) ∧ ((v3 = 0) → K (-1) r)) n39 r6 p0 p1 1 0) r1 p1) ∧ ((z4 = 0) → K (-1) r1)) p1 0 ((fi r1 22) - 1))) p0
set_option maxRecDepth 100000 in
set_option maxHeartbeats 4000000 in
theorem cM_is {a : L_} {r : S_} {K : Int32 → S_ → Prop} (p0 : Int32) (p1 : Int32) (h : qM_is a K r p0 p1) : vx_Mi l yM_is (Cond.code yM_is prog_9_method_51_code 11 (some .int) :: wAll) { frames := 1, cells := 0, slots := 0, locals := 22 } D vwCl (tysG G) nwAll (wo G a r) [.ref (ob G 7), .int p0, .int p1] 0 0 (fun v w => ∃ r1, w = wo G a r1 ∧ K v r1) := by
  unfold qM_is at h
  refine x_meti (cc := prog_9_method_51_code) (maxL := 11) (ret := (some .int)) (lv0 := [(0, .ref (ob G 7)), (1, .int p0), (2, .int p1)]) (by decide) rfl (Nat.le_of_ble_eq_true rfl) rfl ?_
  intro p e s m args below meth c A C hA hlocks hr
  refine x_aload_n C dM_is_0 rfl 0 rfl ?_
  refine x_iconst (v := 0) C dM_is_1 (by decide) ?_
  refine pf_7_0 C (List.mem_cons_of_mem _ wm716) dM_is_2 (fun r1 er1 => ?_)
  have h := h r1 er1
  refine x_aload_n C dM_is_5 rfl 0 rfl ?_
  refine x_iload_n C dM_is_6 rfl 1 rfl ?_
  refine kM_isClass C wm963 ⟨Nat.le_of_ble_eq_true rfl, Nat.le_of_ble_eq_true rfl⟩ (Nat.le_of_ble_eq_true rfl) dM_is_7 ⟨Nat.zero_le _, Nat.zero_le _⟩ h (fun z2 hzz2 h => ?_)
  have h := h hzz2
  refine x_if_eq (tgt := 27) C dM_is_10 (by decide) (fun g3 => ?_) (fun g3 => ?_)
  · have h := h.1 g3
    refine x_iconst (v := (-1)) C dM_is_27 (by decide) ?_
    exact x_iret C hA hlocks hr ⟨r1, rfl, h⟩ dM_is_28
  · have h := h.2 g3
    refine x_iload_n C dM_is_13 rfl 2 rfl ?_
    refine x_iconst (v := 0) C dM_is_14 (by decide) ?_
    refine x_aload_n C dM_is_15 rfl 0 rfl ?_
    refine gf_7_3 C (List.mem_cons_of_mem _ wm719) dM_is_16 ?_
    refine x_iconst (v := 1) C dM_is_19 (by decide) ?_
    refine x_isub C dM_is_20 ?_
    refine kM_in C wm944 ⟨Nat.le_of_ble_eq_true rfl, Nat.le_of_ble_eq_true rfl⟩ (Nat.le_of_ble_eq_true rfl) dM_is_21 ⟨Nat.zero_le _, Nat.zero_le _⟩ h (fun z4 hzz4 h => ?_)
    have h := h hzz4
    refine x_if_ne (tgt := 29) C dM_is_24 (by decide) (fun g5 => ?_) (fun g5 => ?_)
    · have h := h.1 g5
      refine x_aload_n C dM_is_29 rfl 0 rfl ?_
      refine x_iload_n C dM_is_30 rfl 2 rfl ?_
      refine kM_markStatic C wm975 ⟨Nat.le_of_ble_eq_true rfl, Nat.le_of_ble_eq_true rfl⟩ (Nat.le_of_ble_eq_true rfl) dM_is_31 ⟨Nat.zero_le _, Nat.zero_le _⟩ h (fun r6 h => ?_)
      refine x_iconst (v := 1) C dM_is_34 (by decide) ?_
      refine x_istore_n C [(3, .int 1), (0, .ref (ob G 7)), (1, .int p0), (2, .int p1)] dM_is_35 rfl (by decide) rfl ?_
      refine x_iconst (v := 0) C dM_is_36 (by decide) ?_
      refine x_istore C [(4, .int 0), (3, .int 1), (0, .ref (ob G 7)), (1, .int p0), (2, .int p1)] dM_is_37 (by decide) rfl ?_
      obtain ⟨n39, h⟩ := h
      refine x_sub [2, 3, 4, 1, 0] rfl ?_
      refine tM_is_L39 C (fun r v1 v2 v3 h => ?_) n39 r6 p0 p1 1 0 h
      · refine x_iload_n C dM_is_268 rfl 3 rfl ?_
        refine x_if_ne (tgt := 276) C dM_is_269 (by decide) (fun g37 => ?_) (fun g37 => ?_)
        · have h := h.1 g37
          refine x_aload_n C dM_is_276 rfl 0 rfl ?_
          refine gf_7_51 C (List.mem_cons_of_mem _ wm767) dM_is_277 ?_
          refine x_iload_n C dM_is_280 rfl 2 rfl ?_
          obtain ⟨g38, h⟩ := h
          refine y_ia C 74 (by decide) g38 dM_is_281 ?_
          refine x_iload_n C dM_is_282 rfl 1 rfl ?_
          refine x_ishr C dM_is_283 ?_
          refine x_iconst (v := 1) C dM_is_284 (by decide) ?_
          refine x_iand C dM_is_285 ?_
          exact x_iret C hA hlocks hr ⟨r, rfl, h⟩ dM_is_286
        · have h := h.2 g37
          refine x_iconst (v := (-1)) C dM_is_272 (by decide) ?_
          refine x_goto (tgt := 286) C dM_is_273 (by decide) ?_
          exact x_iret C hA hlocks hr ⟨r, rfl, h⟩ dM_is_286
    · have h := h.2 g5
      refine x_iconst (v := (-1)) C dM_is_27 (by decide) ?_
      exact x_iret C hA hlocks hr ⟨r1, rfl, h⟩ dM_is_28
set_option maxRecDepth 100000 in
set_option maxHeartbeats 4000000 in
theorem kM_is {p : Program} {l : Launch} {e : Env} {R : Room} {s : State} {m : MethodId} {args : Array Value} {below : List Frame} {meth : Method} {c : Code} {cells slots : Nat} {Q : State → Prop} {A : Nat → Prop} {D : va_G} {nL pc : Nat} {cc : ByteArray} {cw : Cond} {own : String} {lv : List (Nat × Value)} {st : List Value} {G : G_} {a : L_} {r : S_} {K : Int32 → S_ → Prop} {p0 : Int32} {p1 : Int32} (C : vx_C p s m args c cc nL (cw :: wAll) own D vwCl (tysG G) nwAll A) {i : Nat} (hl : Cond.methodLink own i yM_is ∈ wAll) (hR : 1 + 1 ≤ R.frames ∧ 8 + (11 + 11) + 22 ≤ R.locals) (hst : (st.map fun v => v.category).sum ≤ 8) (hd : decode cc pc = .ok (.invokevirtual i, 3)) (hcs : cells ≤ R.cells ∧ slots ≤ R.slots) (h : qM_is a K r p0 p1) (k : ∀ (v : Int32) (r1 : S_), K v r1 → vx_V p l e R s m args below meth c A D vwCl nL cells slots Q (wo G a r1) (pc + 3) lv (.int v :: st)) : vx_V p l e R s m args below meth c A D vwCl nL cells slots Q (wo G a r) pc lv (.int p1 :: .int p0 :: .ref (ob G 7) :: st) := by
  refine x_callVi C (CC := "ClassInferenceModel") (ci := 7) (q0 := 7) (fs := fl7 G a r) (As := [.int p0, .int p1]) rfl rfl (cM_is p0 p1 h) (cwV (C := "ClassInferenceModel") 2 C.1.2.2.2.2 (goodV hl wm1131 wm1132 wm9 wm1133) rfl rfl rfl (by decide +kernel) hR) rfl hst hd hcs (fun v w hw => ?_)
  obtain ⟨r1, rfl, h⟩ := hw
  exact k v r1 h
def qM_under_J21 (a : L_) (K : Int32 → S_ → Prop) (r : S_) : Prop :=
  K (-1) r
set_option maxRecDepth 100000 in
set_option maxHeartbeats 4000000 in
theorem tM_under_J21 (C : vx_C p s m args c prog_9_method_52_code 3 (Cond.code yM_under prog_9_method_52_code 3 (some .int) :: wAll) "ClassInferenceModel" D vwCl (tysG G) nwAll A) (hA : A = va_A ws0 s.heap.size) (hlocks : meth.locks = false) (hr : meth.sig.returnType = (some .int)) {a : L_} {K : Int32 → S_ → Prop} (r : S_) (h : qM_under_J21 a K r) : vx_V p l e { frames := 1, cells := 0, slots := 0, locals := 23 } s m args below meth c A D vwCl 3 0 0 (MQ below (va_Qi (fun v w => ∃ r1, w = wo G a r1 ∧ K v r1) (vx_B D vwCl (tysG G) A) A) args s 0 0 A) (wo G a r) 21 [] [] := by
  unfold qM_under_J21 at h
  refine x_iconst (v := (-1)) C dM_under_21 (by decide) ?_
  refine x_goto (tgt := 39) C dM_under_22 (by decide) ?_
  exact x_iret C hA hlocks hr ⟨r, rfl, h⟩ dM_under_39
def qM_under (a : L_) (K : Int32 → S_ → Prop) (r : S_) (p0 : Int32) (p1 : Int32) : Prop :=
  ∀ r1 : S_, r1 = sF r 20 0 → qM_isClass a r1 (fun z2 => zb z2 → ((z2 = 0) → qM_under_J21 a K r1) ∧ ((¬ z2 = 0) → qM_isClass a r1 (fun z4 => zb z4 → ((¬ z4 = 0) → qM_isUnder a r1 (fun z6 => zb z6 → ((z6 = 0) → K 0 r1) ∧ ((¬ z6 = 0) → K 1 r1)) p0 p1) ∧ ((z4 = 0) → qM_under_J21 a K r1)) p1)) p0
set_option maxRecDepth 100000 in
set_option maxHeartbeats 4000000 in
theorem cM_under {a : L_} {r : S_} {K : Int32 → S_ → Prop} (p0 : Int32) (p1 : Int32) (h : qM_under a K r p0 p1) : vx_Mi l yM_under (Cond.code yM_under prog_9_method_52_code 3 (some .int) :: wAll) { frames := 1, cells := 0, slots := 0, locals := 23 } D vwCl (tysG G) nwAll (wo G a r) [.ref (ob G 7), .int p0, .int p1] 0 0 (fun v w => ∃ r1, w = wo G a r1 ∧ K v r1) := by
  unfold qM_under at h
  refine x_meti (cc := prog_9_method_52_code) (maxL := 3) (ret := (some .int)) (lv0 := [(0, .ref (ob G 7)), (1, .int p0), (2, .int p1)]) (by decide) rfl (Nat.le_of_ble_eq_true rfl) rfl ?_
  intro p e s m args below meth c A C hA hlocks hr
  refine x_aload_n C dM_under_0 rfl 0 rfl ?_
  refine x_iconst (v := 0) C dM_under_1 (by decide) ?_
  refine pf_7_0 C (List.mem_cons_of_mem _ wm716) dM_under_2 (fun r1 er1 => ?_)
  have h := h r1 er1
  refine x_aload_n C dM_under_5 rfl 0 rfl ?_
  refine x_iload_n C dM_under_6 rfl 1 rfl ?_
  refine kM_isClass C wm963 ⟨Nat.le_of_ble_eq_true rfl, Nat.le_of_ble_eq_true rfl⟩ (Nat.le_of_ble_eq_true rfl) dM_under_7 ⟨Nat.zero_le _, Nat.zero_le _⟩ h (fun z2 hzz2 h => ?_)
  have h := h hzz2
  refine x_if_eq (tgt := 21) C dM_under_10 (by decide) (fun g3 => ?_) (fun g3 => ?_)
  · have h := h.1 g3
    refine x_sub [] rfl ?_
    exact tM_under_J21 C hA hlocks hr r1 h
  · have h := h.2 g3
    refine x_aload_n C dM_under_13 rfl 0 rfl ?_
    refine x_iload_n C dM_under_14 rfl 2 rfl ?_
    refine kM_isClass C wm963 ⟨Nat.le_of_ble_eq_true rfl, Nat.le_of_ble_eq_true rfl⟩ (Nat.le_of_ble_eq_true rfl) dM_under_15 ⟨Nat.zero_le _, Nat.zero_le _⟩ h (fun z4 hzz4 h => ?_)
    have h := h hzz4
    refine x_if_ne (tgt := 25) C dM_under_18 (by decide) (fun g5 => ?_) (fun g5 => ?_)
    · have h := h.1 g5
      refine x_aload_n C dM_under_25 rfl 0 rfl ?_
      refine x_iload_n C dM_under_26 rfl 1 rfl ?_
      refine x_iload_n C dM_under_27 rfl 2 rfl ?_
      refine kM_isUnder C wm987 ⟨Nat.le_of_ble_eq_true rfl, Nat.le_of_ble_eq_true rfl⟩ (Nat.le_of_ble_eq_true rfl) dM_under_28 ⟨Nat.zero_le _, Nat.zero_le _⟩ h (fun z6 hzz6 h => ?_)
      have h := h hzz6
      refine x_if_eq (tgt := 38) C dM_under_31 (by decide) (fun g7 => ?_) (fun g7 => ?_)
      · have h := h.1 g7
        refine x_iconst (v := 0) C dM_under_38 (by decide) ?_
        exact x_iret C hA hlocks hr ⟨r1, rfl, h⟩ dM_under_39
      · have h := h.2 g7
        refine x_iconst (v := 1) C dM_under_34 (by decide) ?_
        refine x_goto (tgt := 39) C dM_under_35 (by decide) ?_
        exact x_iret C hA hlocks hr ⟨r1, rfl, h⟩ dM_under_39
    · have h := h.2 g5
      refine x_sub [] rfl ?_
      exact tM_under_J21 C hA hlocks hr r1 h
set_option maxRecDepth 100000 in
set_option maxHeartbeats 4000000 in
theorem kM_under {p : Program} {l : Launch} {e : Env} {R : Room} {s : State} {m : MethodId} {args : Array Value} {below : List Frame} {meth : Method} {c : Code} {cells slots : Nat} {Q : State → Prop} {A : Nat → Prop} {D : va_G} {nL pc : Nat} {cc : ByteArray} {cw : Cond} {own : String} {lv : List (Nat × Value)} {st : List Value} {G : G_} {a : L_} {r : S_} {K : Int32 → S_ → Prop} {p0 : Int32} {p1 : Int32} (C : vx_C p s m args c cc nL (cw :: wAll) own D vwCl (tysG G) nwAll A) {i : Nat} (hl : Cond.methodLink own i yM_under ∈ wAll) (hR : 1 + 1 ≤ R.frames ∧ 8 + (3 + 11) + 23 ≤ R.locals) (hst : (st.map fun v => v.category).sum ≤ 8) (hd : decode cc pc = .ok (.invokevirtual i, 3)) (hcs : cells ≤ R.cells ∧ slots ≤ R.slots) (h : qM_under a K r p0 p1) (k : ∀ (v : Int32) (r1 : S_), K v r1 → vx_V p l e R s m args below meth c A D vwCl nL cells slots Q (wo G a r1) (pc + 3) lv (.int v :: st)) : vx_V p l e R s m args below meth c A D vwCl nL cells slots Q (wo G a r) pc lv (.int p1 :: .int p0 :: .ref (ob G 7) :: st) := by
  refine x_callVi C (CC := "ClassInferenceModel") (ci := 7) (q0 := 7) (fs := fl7 G a r) (As := [.int p0, .int p1]) rfl rfl (cM_under p0 p1 h) (cwV (C := "ClassInferenceModel") 2 C.1.2.2.2.2 (goodV hl wm1135 wm1136 wm9 wm1137) rfl rfl rfl (by decide +kernel) hR) rfl hst hd hcs (fun v w hw => ?_)
  obtain ⟨r1, rfl, h⟩ := hw
  exact k v r1 h
def qM_types (a : L_) (K : Int32 → S_ → Prop) (r : S_) : Prop :=
  ∀ r1 : S_, r1 = sF r 20 0 → K (fi r1 22) r1
set_option maxRecDepth 100000 in
set_option maxHeartbeats 4000000 in
theorem cM_types {a : L_} {r : S_} {K : Int32 → S_ → Prop} (h : qM_types a K r ) : vx_Mi l yM_types (Cond.code yM_types prog_9_method_53_code 1 (some .int) :: wAll) { frames := 0, cells := 0, slots := 0, locals := 0 } D vwCl (tysG G) nwAll (wo G a r) [.ref (ob G 7)] 0 0 (fun v w => ∃ r1, w = wo G a r1 ∧ K v r1) := by
  unfold qM_types at h
  refine x_meti (cc := prog_9_method_53_code) (maxL := 1) (ret := (some .int)) (lv0 := [(0, .ref (ob G 7))]) (by decide) rfl (Nat.le_of_ble_eq_true rfl) rfl ?_
  intro p e s m args below meth c A C hA hlocks hr
  refine x_aload_n C dM_types_0 rfl 0 rfl ?_
  refine x_iconst (v := 0) C dM_types_1 (by decide) ?_
  refine pf_7_0 C (List.mem_cons_of_mem _ wm716) dM_types_2 (fun r1 er1 => ?_)
  have h := h r1 er1
  refine x_aload_n C dM_types_5 rfl 0 rfl ?_
  refine gf_7_3 C (List.mem_cons_of_mem _ wm719) dM_types_6 ?_
  exact x_iret C hA hlocks hr ⟨r1, rfl, h⟩ dM_types_9
set_option maxRecDepth 100000 in
set_option maxHeartbeats 4000000 in
theorem kM_types {p : Program} {l : Launch} {e : Env} {R : Room} {s : State} {m : MethodId} {args : Array Value} {below : List Frame} {meth : Method} {c : Code} {cells slots : Nat} {Q : State → Prop} {A : Nat → Prop} {D : va_G} {nL pc : Nat} {cc : ByteArray} {cw : Cond} {own : String} {lv : List (Nat × Value)} {st : List Value} {G : G_} {a : L_} {r : S_} {K : Int32 → S_ → Prop} (C : vx_C p s m args c cc nL (cw :: wAll) own D vwCl (tysG G) nwAll A) {i : Nat} (hl : Cond.methodLink own i yM_types ∈ wAll) (hR : 0 + 1 ≤ R.frames ∧ 8 + (1 + 11) + 0 ≤ R.locals) (hst : (st.map fun v => v.category).sum ≤ 8) (hd : decode cc pc = .ok (.invokevirtual i, 3)) (hcs : cells ≤ R.cells ∧ slots ≤ R.slots) (h : qM_types a K r ) (k : ∀ (v : Int32) (r1 : S_), K v r1 → vx_V p l e R s m args below meth c A D vwCl nL cells slots Q (wo G a r1) (pc + 3) lv (.int v :: st)) : vx_V p l e R s m args below meth c A D vwCl nL cells slots Q (wo G a r) pc lv (.ref (ob G 7) :: st) := by
  refine x_callVi C (CC := "ClassInferenceModel") (ci := 7) (q0 := 7) (fs := fl7 G a r) (As := []) rfl rfl (cM_types  h) (cwV (C := "ClassInferenceModel") 0 C.1.2.2.2.2 (goodV hl wm1139 wm1140 wm9 wm1141) rfl rfl rfl (by decide +kernel) hR) rfl hst hd hcs (fun v w hw => ?_)
  obtain ⟨r1, rfl, h⟩ := hw
  exact k v r1 h
def qM_classes (a : L_) (K : Int32 → S_ → Prop) (r : S_) : Prop :=
  ∀ r1 : S_, r1 = sF r 20 0 → K (fi r1 23) r1
set_option maxRecDepth 100000 in
set_option maxHeartbeats 4000000 in
theorem cM_classes {a : L_} {r : S_} {K : Int32 → S_ → Prop} (h : qM_classes a K r ) : vx_Mi l yM_classes (Cond.code yM_classes prog_9_method_54_code 1 (some .int) :: wAll) { frames := 0, cells := 0, slots := 0, locals := 0 } D vwCl (tysG G) nwAll (wo G a r) [.ref (ob G 7)] 0 0 (fun v w => ∃ r1, w = wo G a r1 ∧ K v r1) := by
  unfold qM_classes at h
  refine x_meti (cc := prog_9_method_54_code) (maxL := 1) (ret := (some .int)) (lv0 := [(0, .ref (ob G 7))]) (by decide) rfl (Nat.le_of_ble_eq_true rfl) rfl ?_
  intro p e s m args below meth c A C hA hlocks hr
  refine x_aload_n C dM_classes_0 rfl 0 rfl ?_
  refine x_iconst (v := 0) C dM_classes_1 (by decide) ?_
  refine pf_7_0 C (List.mem_cons_of_mem _ wm716) dM_classes_2 (fun r1 er1 => ?_)
  have h := h r1 er1
  refine x_aload_n C dM_classes_5 rfl 0 rfl ?_
  refine gf_7_8 C (List.mem_cons_of_mem _ wm724) dM_classes_6 ?_
  exact x_iret C hA hlocks hr ⟨r1, rfl, h⟩ dM_classes_9
set_option maxRecDepth 100000 in
set_option maxHeartbeats 4000000 in
theorem kM_classes {p : Program} {l : Launch} {e : Env} {R : Room} {s : State} {m : MethodId} {args : Array Value} {below : List Frame} {meth : Method} {c : Code} {cells slots : Nat} {Q : State → Prop} {A : Nat → Prop} {D : va_G} {nL pc : Nat} {cc : ByteArray} {cw : Cond} {own : String} {lv : List (Nat × Value)} {st : List Value} {G : G_} {a : L_} {r : S_} {K : Int32 → S_ → Prop} (C : vx_C p s m args c cc nL (cw :: wAll) own D vwCl (tysG G) nwAll A) {i : Nat} (hl : Cond.methodLink own i yM_classes ∈ wAll) (hR : 0 + 1 ≤ R.frames ∧ 8 + (1 + 11) + 0 ≤ R.locals) (hst : (st.map fun v => v.category).sum ≤ 8) (hd : decode cc pc = .ok (.invokevirtual i, 3)) (hcs : cells ≤ R.cells ∧ slots ≤ R.slots) (h : qM_classes a K r ) (k : ∀ (v : Int32) (r1 : S_), K v r1 → vx_V p l e R s m args below meth c A D vwCl nL cells slots Q (wo G a r1) (pc + 3) lv (.int v :: st)) : vx_V p l e R s m args below meth c A D vwCl nL cells slots Q (wo G a r) pc lv (.ref (ob G 7) :: st) := by
  refine x_callVi C (CC := "ClassInferenceModel") (ci := 7) (q0 := 7) (fs := fl7 G a r) (As := []) rfl rfl (cM_classes  h) (cwV (C := "ClassInferenceModel") 0 C.1.2.2.2.2 (goodV hl wm1143 wm1144 wm9 wm1145) rfl rfl rfl (by decide +kernel) hR) rfl hst hd hcs (fun v w hw => ?_)
  obtain ⟨r1, rfl, h⟩ := hw
  exact k v r1 h
def qM_expressions (a : L_) (K : Int32 → S_ → Prop) (r : S_) : Prop :=
  ∀ r1 : S_, r1 = sF r 20 0 → K (fi r1 25) r1
set_option maxRecDepth 100000 in
set_option maxHeartbeats 4000000 in
theorem cM_expressions {a : L_} {r : S_} {K : Int32 → S_ → Prop} (h : qM_expressions a K r ) : vx_Mi l yM_expressions (Cond.code yM_expressions prog_9_method_55_code 1 (some .int) :: wAll) { frames := 0, cells := 0, slots := 0, locals := 0 } D vwCl (tysG G) nwAll (wo G a r) [.ref (ob G 7)] 0 0 (fun v w => ∃ r1, w = wo G a r1 ∧ K v r1) := by
  unfold qM_expressions at h
  refine x_meti (cc := prog_9_method_55_code) (maxL := 1) (ret := (some .int)) (lv0 := [(0, .ref (ob G 7))]) (by decide) rfl (Nat.le_of_ble_eq_true rfl) rfl ?_
  intro p e s m args below meth c A C hA hlocks hr
  refine x_aload_n C dM_expressions_0 rfl 0 rfl ?_
  refine x_iconst (v := 0) C dM_expressions_1 (by decide) ?_
  refine pf_7_0 C (List.mem_cons_of_mem _ wm716) dM_expressions_2 (fun r1 er1 => ?_)
  have h := h r1 er1
  refine x_aload_n C dM_expressions_5 rfl 0 rfl ?_
  refine gf_7_15 C (List.mem_cons_of_mem _ wm731) dM_expressions_6 ?_
  exact x_iret C hA hlocks hr ⟨r1, rfl, h⟩ dM_expressions_9
set_option maxRecDepth 100000 in
set_option maxHeartbeats 4000000 in
theorem kM_expressions {p : Program} {l : Launch} {e : Env} {R : Room} {s : State} {m : MethodId} {args : Array Value} {below : List Frame} {meth : Method} {c : Code} {cells slots : Nat} {Q : State → Prop} {A : Nat → Prop} {D : va_G} {nL pc : Nat} {cc : ByteArray} {cw : Cond} {own : String} {lv : List (Nat × Value)} {st : List Value} {G : G_} {a : L_} {r : S_} {K : Int32 → S_ → Prop} (C : vx_C p s m args c cc nL (cw :: wAll) own D vwCl (tysG G) nwAll A) {i : Nat} (hl : Cond.methodLink own i yM_expressions ∈ wAll) (hR : 0 + 1 ≤ R.frames ∧ 8 + (1 + 11) + 0 ≤ R.locals) (hst : (st.map fun v => v.category).sum ≤ 8) (hd : decode cc pc = .ok (.invokevirtual i, 3)) (hcs : cells ≤ R.cells ∧ slots ≤ R.slots) (h : qM_expressions a K r ) (k : ∀ (v : Int32) (r1 : S_), K v r1 → vx_V p l e R s m args below meth c A D vwCl nL cells slots Q (wo G a r1) (pc + 3) lv (.int v :: st)) : vx_V p l e R s m args below meth c A D vwCl nL cells slots Q (wo G a r) pc lv (.ref (ob G 7) :: st) := by
  refine x_callVi C (CC := "ClassInferenceModel") (ci := 7) (q0 := 7) (fs := fl7 G a r) (As := []) rfl rfl (cM_expressions  h) (cwV (C := "ClassInferenceModel") 0 C.1.2.2.2.2 (goodV hl wm1147 wm1148 wm9 wm1149) rfl rfl rfl (by decide +kernel) hR) rfl hst hd hcs (fun v w hw => ?_)
  obtain ⟨r1, rfl, h⟩ := hw
  exact k v r1 h
def qJ_fill_L5 (a : L_) (m0 : Nat) (KX20 : S_ → Prop) : Nat → S_ → Int32 → Int32 → Int32 → Prop
  | 0, _, _, _, _ => False
  | n + 1, r, v1, v2, v3 => ((v3 ≤ v2) → KX20 r) ∧ ((¬ v3 ≤ v2) → vp_in v2 (ln a m0) ∧ ∀ r3 : S_, r3 = sA r m0 (upd (ar r m0) v2.toNatClampNeg v1) → (qJ_fill_L5 a m0 KX20 n) r3 v1 (v2 + 1) v3)
set_option maxRecDepth 100000 in
set_option maxHeartbeats 4000000 in
theorem tJ_fill_L5 (C : vx_C p s m args c prog_14_method_103_code 4 (Cond.code yJ_fill prog_14_method_103_code 4 none :: wAll) "java/util/Arrays" D vwCl (tysG G) nwAll A) {a : L_} {m0 : Nat} (hm0 : m0 < 86) {KX20 : S_ → Prop} (kX20 : ∀ (r : S_), KX20 r → vx_V p l e { frames := 0, cells := 0, slots := 0, locals := 0 } s m args below meth c A D vwCl 4 0 0 Q (wo G a r) 20 [] []) : ∀ (n : Nat) (r : S_) (v1 : Int32) (v2 : Int32) (v3 : Int32), qJ_fill_L5 a m0 KX20 n r v1 v2 v3 → vx_V p l e { frames := 0, cells := 0, slots := 0, locals := 0 } s m args below meth c A D vwCl 4 0 0 Q (wo G a r) 5 [(0, .ref (ad a m0)), (1, .int v1), (2, .int v2), (3, .int v3)] [] := by
  intro n
  induction n with
  | zero =>
    intro r v1 v2 v3 h
    exact (by rw [qJ_fill_L5] at h; exact h : False).elim
  | succ n kB5 =>
    intro r v1 v2 v3 h
    rw [qJ_fill_L5] at h
    refine x_iload_n C dJ_fill_5 rfl 2 rfl ?_
    refine x_iload_n C dJ_fill_6 rfl 3 rfl ?_
    refine x_icmp_ge (tgt := 20) C dJ_fill_7 (by decide) (fun g1 => ?_) (fun g1 => ?_)
    · have h := h.1 g1
      refine x_sub [] rfl ?_
      exact kX20 r h
    · have h := h.2 g1
      refine x_aload_n C dJ_fill_10 rfl 0 rfl ?_
      refine x_iload_n C dJ_fill_11 rfl 2 rfl ?_
      refine x_iload_n C dJ_fill_12 rfl 1 rfl ?_
      obtain ⟨g2, h⟩ := h
      refine y_is C m0 hm0 g2 dJ_fill_13 (fun r3 er3 => ?_)
      have h := h r3 er3
      refine x_iinc (j := 2) (v := v2 + 1) C [(2, .int (v2 + 1)), (0, .ref (ad a m0)), (1, .int v1), (3, .int v3)] dJ_fill_14 rfl rfl (by decide) rfl ?_
      refine x_goto (tgt := 5) C dJ_fill_17 (by decide) ?_
      refine x_sub [1, 2, 0, 3] rfl ?_
      exact kB5 r3 v1 (v2 + 1) v3 h
def qJ_fill (a : L_) (m0 : Nat) (K : S_ → Prop) (r : S_) (p1 : Int32) : Prop :=
  ∃ n4 : Nat, qJ_fill_L5 a m0 (fun r => K r) n4 r p1 0 (Int32.ofNat (ln a m0))
set_option maxRecDepth 100000 in
set_option maxHeartbeats 4000000 in
theorem cJ_fill {a : L_} {m0 : Nat} {r : S_} {K : S_ → Prop} (hm0 : m0 < 86) (p1 : Int32) (h : qJ_fill a m0 K r p1) : vx_Mv l yJ_fill (Cond.code yJ_fill prog_14_method_103_code 4 none :: wAll) { frames := 0, cells := 0, slots := 0, locals := 0 } D vwCl (tysG G) nwAll (wo G a r) [.ref (ad a m0), .int p1] 0 0 (fun w => ∃ r1, w = wo G a r1 ∧ K r1) := by
  unfold qJ_fill at h
  refine x_metv (cc := prog_14_method_103_code) (maxL := 4) (ret := none) (lv0 := [(0, .ref (ad a m0)), (1, .int p1)]) (by decide) rfl (Nat.le_of_ble_eq_true rfl) rfl ?_
  intro p e s m args below meth c A C hA hlocks hr
  refine x_iconst (v := 0) C dJ_fill_0 (by decide) ?_
  refine x_istore_n C [(2, .int 0), (0, .ref (ad a m0)), (1, .int p1)] dJ_fill_1 rfl (by decide) rfl ?_
  refine x_aload_n C dJ_fill_2 rfl 1 rfl ?_
  refine y_alen C m0 hm0 dJ_fill_3 ?_
  refine x_istore_n C [(3, .int (Int32.ofNat (ln a m0))), (2, .int 0), (0, .ref (ad a m0)), (1, .int p1)] dJ_fill_4 rfl (by decide) rfl ?_
  obtain ⟨n4, h⟩ := h
  refine x_sub [2, 3, 1, 0] rfl ?_
  refine tJ_fill_L5 C hm0 (fun r h => ?_) n4 r p1 0 (Int32.ofNat (ln a m0)) h
  · exact x_vret C hA hlocks hr ⟨r, rfl, h⟩ dJ_fill_20
set_option maxRecDepth 100000 in
set_option maxHeartbeats 4000000 in
theorem kJ_fill {p : Program} {l : Launch} {e : Env} {R : Room} {s : State} {m : MethodId} {args : Array Value} {below : List Frame} {meth : Method} {c : Code} {cells slots : Nat} {Q : State → Prop} {A : Nat → Prop} {D : va_G} {nL pc : Nat} {cc : ByteArray} {cw : Cond} {own : String} {lv : List (Nat × Value)} {st : List Value} {G : G_} {a : L_} {m0 : Nat} {r : S_} {K : S_ → Prop} {p1 : Int32} (C : vx_C p s m args c cc nL (cw :: wAll) own D vwCl (tysG G) nwAll A) (hm0 : m0 < 86) {i : Nat} (hl : Cond.methodLink own i yJ_fill ∈ wAll) (hR : 0 + 1 ≤ R.frames ∧ 8 + (4 + 11) + 0 ≤ R.locals) (hst : (st.map fun v => v.category).sum ≤ 8) (hd : decode cc pc = .ok (.invokestatic i, 3)) (hcs : cells ≤ R.cells ∧ slots ≤ R.slots) (h : qJ_fill a m0 K r p1) (k : ∀ (r1 : S_), K r1 → vx_V p l e R s m args below meth c A D vwCl nL cells slots Q (wo G a r1) (pc + 3) lv st) : vx_V p l e R s m args below meth c A D vwCl nL cells slots Q (wo G a r) pc lv (.int p1 :: .ref (ad a m0) :: st) := by
  refine x_callSv C (As := [.ref (ad a m0), .int p1]) (cJ_fill hm0 p1 h) (va_cwS 2 C.1.2.2.2.2 (goodS hl wm67 wm4 wm68) rfl rfl rfl (by decide +kernel) hR) rfl hst hd hcs (fun w hw => ?_)
  obtain ⟨r1, rfl, h⟩ := hw
  exact k r1 h
end MTH
