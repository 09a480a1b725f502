section MTH
variable {p : Program} {l : Launch} {e : Env} {s : State} {m : MethodId} {args : Array Value} {below : List Frame} {meth : Method} {c : Code} {Q : State → Prop} {A : Nat → Prop} {D : va_G} {G : G_} {ws0 : va_W}
def qM_typeName_J46 (a : L_) (K : S_ → Prop) (r : S_) (u0 : Int32) (u1 : Int32) : Prop :=
  vp_in u1 (ln a 55) ∧ ∀ r8 : S_, r8 = sA r 55 (upd (ar r 55) u1.toNatClampNeg u0) → K r8
set_option maxRecDepth 100000 in
set_option maxHeartbeats 4000000 in
theorem tM_typeName_J46 (C : vx_C p s m args c prog_9_method_39_code 3 (Cond.code yM_typeName prog_9_method_39_code 3 none :: wAll) "ClassInferenceModel" D vwCl (tysG G) nwAll A) (hA : A = va_A ws0 s.heap.size) (hlocks : meth.locks = false) (hr : meth.sig.returnType = none) {a : L_} {K : S_ → Prop} (r : S_) (u0 : Int32) (u1 : Int32) (h : qM_typeName_J46 a K r u0 u1) : vx_V p l e { frames := 3, cells := 0, slots := 0, locals := 71 } s m args below meth c A D vwCl 3 0 0 (MQ below (va_Qv (fun w => ∃ r1, w = wo G a r1 ∧ K r1) (vx_B D vwCl (tysG G) A) A) args s 0 0 A) (wo G a r) 46 [] [.int u0, .int u1, .ref (ad a 55)] := by
  unfold qM_typeName_J46 at h
  obtain ⟨g7, h⟩ := h
  refine y_is C 55 (by decide) g7 dM_typeName_46 (fun r8 er8 => ?_)
  have h := h r8 er8
  exact x_vret C hA hlocks hr ⟨r8, rfl, h⟩ dM_typeName_47
def qM_typeName (a : L_) (K : S_ → Prop) (r : S_) (p0 : Int32) : Prop :=
  qM_binder a r (fun z1 => ((0 ≤ z1) → qM_kindOf a r (fun z3 => ((¬ z3 = 1) → qM_copyOf a (fun z5 r6 => qM_typeName_J46 a K r6 z5 p0) r z1) ∧ ((z3 = 1) → vp_in z1 (ln a 56) ∧ qM_typeName_J46 a K r (ar r 56 z1.toNatClampNeg) p0)) z1) ∧ ((¬ 0 ≤ z1) → zb 1 ∧ ∀ r10 : S_, r10 = sF r 32 1 → K r10)) p0
set_option maxRecDepth 100000 in
set_option maxHeartbeats 4000000 in
theorem cM_typeName {a : L_} {r : S_} {K : S_ → Prop} (p0 : Int32) (h : qM_typeName a K r p0) : vx_Mv l yM_typeName (Cond.code yM_typeName prog_9_method_39_code 3 none :: wAll) { frames := 3, cells := 0, slots := 0, locals := 71 } D vwCl (tysG G) nwAll (wo G a r) [.ref (ob G 7), .int p0] 0 0 (fun w => ∃ r1, w = wo G a r1 ∧ K r1) := by
  unfold qM_typeName at h
  refine x_metv (cc := prog_9_method_39_code) (maxL := 3) (ret := none) (lv0 := [(0, .ref (ob G 7)), (1, .int p0)]) (by decide) rfl (Nat.le_of_ble_eq_true rfl) rfl ?_
  intro p e s m args below meth c A C hA hlocks hr
  refine x_aload_n C dM_typeName_0 rfl 0 rfl ?_
  refine x_iload_n C dM_typeName_1 rfl 1 rfl ?_
  refine kM_binder C wm1027 ⟨Nat.le_of_ble_eq_true rfl, Nat.le_of_ble_eq_true rfl⟩ (Nat.le_of_ble_eq_true rfl) dM_typeName_2 ⟨Nat.zero_le _, Nat.zero_le _⟩ h (fun z1 h => ?_)
  refine x_istore_n C [(2, .int z1), (0, .ref (ob G 7)), (1, .int p0)] dM_typeName_5 rfl (by decide) rfl ?_
  refine x_iload_n C dM_typeName_6 rfl 0 rfl ?_
  refine x_if_ge (tgt := 18) C dM_typeName_7 (by decide) (fun g2 => ?_) (fun g2 => ?_)
  · have h := h.1 g2
    refine x_aload_n C dM_typeName_18 rfl 1 rfl ?_
    refine gf_7_27 C (List.mem_cons_of_mem _ wm743) dM_typeName_19 ?_
    refine x_iload_n C dM_typeName_22 rfl 2 rfl ?_
    refine x_aload_n C dM_typeName_23 rfl 1 rfl ?_
    refine x_iload_n C dM_typeName_24 rfl 0 rfl ?_
    refine kM_kindOf C wm1019 ⟨Nat.le_of_ble_eq_true rfl, Nat.le_of_ble_eq_true rfl⟩ (Nat.le_of_ble_eq_true rfl) dM_typeName_25 ⟨Nat.zero_le _, Nat.zero_le _⟩ h (fun z3 h => ?_)
    refine x_iconst (v := 1) C dM_typeName_28 (by decide) ?_
    refine x_icmp_ne (tgt := 41) C dM_typeName_29 (by decide) (fun g4 => ?_) (fun g4 => ?_)
    · have h := h.1 g4
      refine x_aload_n C dM_typeName_41 rfl 1 rfl ?_
      refine x_iload_n C dM_typeName_42 rfl 0 rfl ?_
      refine kM_copyOf C wm1031 ⟨Nat.le_of_ble_eq_true rfl, Nat.le_of_ble_eq_true rfl⟩ (Nat.le_of_ble_eq_true rfl) dM_typeName_43 ⟨Nat.zero_le _, Nat.zero_le _⟩ h (fun z5 r6 h => ?_)
      refine x_sub [] rfl ?_
      exact tM_typeName_J46 C hA hlocks hr r6 z5 p0 h
    · have h := h.2 g4
      refine x_aload_n C dM_typeName_32 rfl 1 rfl ?_
      refine gf_7_28 C (List.mem_cons_of_mem _ wm744) dM_typeName_33 ?_
      refine x_iload_n C dM_typeName_36 rfl 0 rfl ?_
      obtain ⟨g9, h⟩ := h
      refine y_ia C 56 (by decide) g9 dM_typeName_37 ?_
      refine x_goto (tgt := 46) C dM_typeName_38 (by decide) ?_
      refine x_sub [] rfl ?_
      exact tM_typeName_J46 C hA hlocks hr r (ar r 56 z1.toNatClampNeg) p0 h
  · have h := h.2 g2
    refine x_aload_n C dM_typeName_10 rfl 1 rfl ?_
    refine x_iconst (v := 1) C dM_typeName_11 (by decide) ?_
    obtain ⟨g11, h⟩ := h
    refine pf_7_56 C (List.mem_cons_of_mem _ wm772) g11 dM_typeName_12 (fun r10 er10 => ?_)
    have h := h r10 er10
    refine x_goto (tgt := 47) C dM_typeName_15 (by decide) ?_
    exact x_vret C hA hlocks hr ⟨r10, rfl, h⟩ dM_typeName_47
set_option maxRecDepth 100000 in
set_option maxHeartbeats 4000000 in
theorem kM_typeName {p : Program} {l : Launch} {e : Env} {R : Room} {s : State} {m : MethodId} {args : Array Value} {below : List Frame} {meth : Method} {c : Code} {cells slots : Nat} {Q : State → Prop} {A : Nat → Prop} {D : va_G} {nL pc : Nat} {cc : ByteArray} {cw : Cond} {own : String} {lv : List (Nat × Value)} {st : List Value} {G : G_} {a : L_} {r : S_} {K : S_ → Prop} {p0 : Int32} (C : vx_C p s m args c cc nL (cw :: wAll) own D vwCl (tysG G) nwAll A) {i : Nat} (hl : Cond.methodLink own i yM_typeName ∈ wAll) (hR : 3 + 1 ≤ R.frames ∧ 8 + (3 + 11) + 71 ≤ R.locals) (hst : (st.map fun v => v.category).sum ≤ 8) (hd : decode cc pc = .ok (.invokevirtual i, 3)) (hcs : cells ≤ R.cells ∧ slots ≤ R.slots) (h : qM_typeName a K r p0) (k : ∀ (r1 : S_), K r1 → vx_V p l e R s m args below meth c A D vwCl nL cells slots Q (wo G a r1) (pc + 3) lv st) : vx_V p l e R s m args below meth c A D vwCl nL cells slots Q (wo G a r) pc lv (.int p0 :: .ref (ob G 7) :: st) := by
  refine x_callVv C (CC := "ClassInferenceModel") (ci := 7) (q0 := 7) (fs := fl7 G a r) (As := [.int p0]) rfl rfl (cM_typeName p0 h) (cwV (C := "ClassInferenceModel") 1 C.1.2.2.2.2 (goodV hl wm1025 wp42 wm9 wm1026) rfl rfl rfl (by decide +kernel) hR) rfl hst hd hcs (fun w hw => ?_)
  obtain ⟨r1, rfl, h⟩ := hw
  exact k r1 h
def qM_visit_J265 (a : L_) (K : Int32 → S_ → Prop) (r : S_) (v1 : Int32) : Prop :=
  vp_in v1 (ln a 54) ∧ K (ar r 54 v1.toNatClampNeg) r
set_option maxRecDepth 100000 in
set_option maxHeartbeats 4000000 in
theorem tM_visit_J265 (C : vx_C p s m args c prog_9_method_40_code 6 (Cond.code yM_visit prog_9_method_40_code 6 (some .int) :: wAll) "ClassInferenceModel" D vwCl (tysG G) nwAll A) (hA : A = va_A ws0 s.heap.size) (hlocks : meth.locks = false) (hr : meth.sig.returnType = (some .int)) {a : L_} {K : Int32 → S_ → Prop} (r : S_) (v1 : Int32) (h : qM_visit_J265 a K r v1) : vx_V p l e { frames := 4, cells := 0, slots := 0, locals := 93 } s m args below meth c A D vwCl 6 0 0 (MQ below (va_Qi (fun v w => ∃ r1, w = wo G a r1 ∧ K v r1) (vx_B D vwCl (tysG G) A) A) args s 0 0 A) (wo G a r) 265 [(0, .ref (ob G 7)), (1, .int v1)] [] := by
  unfold qM_visit_J265 at h
  refine x_aload_n C dM_visit_265 rfl 0 rfl ?_
  refine gf_7_26 C (List.mem_cons_of_mem _ wm742) dM_visit_266 ?_
  refine x_iload_n C dM_visit_269 rfl 1 rfl ?_
  obtain ⟨g30, h⟩ := h
  refine y_ia C 54 (by decide) g30 dM_visit_270 ?_
  exact x_iret C hA hlocks hr ⟨r, rfl, h⟩ dM_visit_271
def qM_visit_J194 (a : L_) (K : Int32 → S_ → Prop) (r : S_) (v1 : Int32) (v2 : Int32) (v3 : Int32) : Prop :=
  ((¬ v2 = 1) → ((¬ v3 = 0) → ((¬ v3 = 1) → ((¬ v2 = 2) → vp_in v1 (ln a 54) ∧ vp_in (ar r 54 v1.toNatClampNeg) (ln a 55) ∧ vp_in v1 (ln a 55) ∧ ∀ r16 : S_, r16 = sA r 55 (upd (ar r 55) v1.toNatClampNeg (ar r 55 (ar r 54 v1.toNatClampNeg).toNatClampNeg)) → K (-1) r16) ∧ ((v2 = 2) → qM_fresh a (fun z17 r18 => vp_in v1 (ln a 55) ∧ ∀ r20 : S_, r20 = sA r18 55 (upd (ar r18 55) v1.toNatClampNeg z17) → vp_in v1 (ln a 53) ∧ vp_in (ar r20 53 v1.toNatClampNeg) (ln a 55) ∧ vp_in v1 (ln a 54) ∧ vp_in (ar r20 54 v1.toNatClampNeg) (ln a 55) ∧ vp_in v1 (ln a 55) ∧ qM_arrow a (fun z26 r27 => qM_unify a (fun r28 => K (-1) r28) r27 (ar r20 55 (ar r20 53 v1.toNatClampNeg).toNatClampNeg) z26) r20 (ar r20 55 (ar r20 54 v1.toNatClampNeg).toNatClampNeg) (ar r20 55 v1.toNatClampNeg)) r)) ∧ ((v3 = 1) → ((¬ v2 = 3) → qM_visit_J265 a K r v1) ∧ ((v2 = 3) → qM_generalise a (fun r31 => qM_visit_J265 a K r31 v1) r v1))) ∧ ((v3 = 0) → vp_in v1 (ln a 61) ∧ ∀ r33 : S_, r33 = sA r 61 (upd (ar r 61) v1.toNatClampNeg (fi r 31)) → vp_in v1 (ln a 53) ∧ K (ar r33 53 v1.toNatClampNeg) r33)) ∧ ((v2 = 1) → vp_in v1 (ln a 56) ∧ vp_in v1 (ln a 53) ∧ vp_in (ar r 53 v1.toNatClampNeg) (ln a 55) ∧ qM_arrow a (fun z38 r39 => vp_in v1 (ln a 55) ∧ ∀ r41 : S_, r41 = sA r39 55 (upd (ar r39 55) v1.toNatClampNeg z38) → K (-1) r41) r (ar r 56 v1.toNatClampNeg) (ar r 55 (ar r 53 v1.toNatClampNeg).toNatClampNeg))
set_option maxRecDepth 100000 in
set_option maxHeartbeats 4000000 in
theorem tM_visit_J194 (C : vx_C p s m args c prog_9_method_40_code 6 (Cond.code yM_visit prog_9_method_40_code 6 (some .int) :: wAll) "ClassInferenceModel" D vwCl (tysG G) nwAll A) (hA : A = va_A ws0 s.heap.size) (hlocks : meth.locks = false) (hr : meth.sig.returnType = (some .int)) {a : L_} {K : Int32 → S_ → Prop} (r : S_) (v1 : Int32) (v2 : Int32) (v3 : Int32) (h : qM_visit_J194 a K r v1 v2 v3) : vx_V p l e { frames := 4, cells := 0, slots := 0, locals := 93 } s m args below meth c A D vwCl 6 0 0 (MQ below (va_Qi (fun v w => ∃ r1, w = wo G a r1 ∧ K v r1) (vx_B D vwCl (tysG G) A) A) args s 0 0 A) (wo G a r) 194 [(0, .ref (ob G 7)), (1, .int v1), (2, .int v2), (3, .int v3)] [] := by
  unfold qM_visit_J194 at h
  refine x_iload_n C dM_visit_194 rfl 2 rfl ?_
  refine x_iconst (v := 1) C dM_visit_195 (by decide) ?_
  refine x_icmp_ne (tgt := 229) C dM_visit_196 (by decide) (fun g9 => ?_) (fun g9 => ?_)
  · have h := h.1 g9
    refine x_iload_n C dM_visit_229 rfl 3 rfl ?_
    refine x_if_ne (tgt := 250) C dM_visit_230 (by decide) (fun g10 => ?_) (fun g10 => ?_)
    · have h := h.1 g10
      refine x_iload_n C dM_visit_250 rfl 3 rfl ?_
      refine x_iconst (v := 1) C dM_visit_251 (by decide) ?_
      refine x_icmp_ne (tgt := 272) C dM_visit_252 (by decide) (fun g11 => ?_) (fun g11 => ?_)
      · have h := h.1 g11
        refine x_iload_n C dM_visit_272 rfl 2 rfl ?_
        refine x_iconst (v := 2) C dM_visit_273 (by decide) ?_
        refine x_icmp_ne (tgt := 326) C dM_visit_274 (by decide) (fun g12 => ?_) (fun g12 => ?_)
        · have h := h.1 g12
          refine x_aload_n C dM_visit_326 rfl 0 rfl ?_
          refine gf_7_27 C (List.mem_cons_of_mem _ wm743) dM_visit_327 ?_
          refine x_iload_n C dM_visit_330 rfl 1 rfl ?_
          refine x_aload_n C dM_visit_331 rfl 0 rfl ?_
          refine gf_7_27 C (List.mem_cons_of_mem _ wm743) dM_visit_332 ?_
          refine x_aload_n C dM_visit_335 rfl 0 rfl ?_
          refine gf_7_26 C (List.mem_cons_of_mem _ wm742) dM_visit_336 ?_
          refine x_iload_n C dM_visit_339 rfl 1 rfl ?_
          obtain ⟨g13, h⟩ := h
          refine y_ia C 54 (by decide) g13 dM_visit_340 ?_
          obtain ⟨g14, h⟩ := h
          refine y_ia C 55 (by decide) g14 dM_visit_341 ?_
          obtain ⟨g15, h⟩ := h
          refine y_is C 55 (by decide) g15 dM_visit_342 (fun r16 er16 => ?_)
          have h := h r16 er16
          refine x_iconst (v := (-1)) C dM_visit_343 (by decide) ?_
          exact x_iret C hA hlocks hr ⟨r16, rfl, h⟩ dM_visit_344
        · have h := h.2 g12
          refine x_aload_n C dM_visit_277 rfl 0 rfl ?_
          refine gf_7_27 C (List.mem_cons_of_mem _ wm743) dM_visit_278 ?_
          refine x_iload_n C dM_visit_281 rfl 1 rfl ?_
          refine x_aload_n C dM_visit_282 rfl 0 rfl ?_
          refine kM_fresh C wm1062 ⟨Nat.le_of_ble_eq_true rfl, Nat.le_of_ble_eq_true rfl⟩ (Nat.le_of_ble_eq_true rfl) dM_visit_283 ⟨Nat.zero_le _, Nat.zero_le _⟩ h (fun z17 r18 h => ?_)
          obtain ⟨g19, h⟩ := h
          refine y_is C 55 (by decide) g19 dM_visit_286 (fun r20 er20 => ?_)
          have h := h r20 er20
          refine x_aload_n C dM_visit_287 rfl 0 rfl ?_
          refine x_aload_n C dM_visit_288 rfl 0 rfl ?_
          refine gf_7_27 C (List.mem_cons_of_mem _ wm743) dM_visit_289 ?_
          refine x_aload_n C dM_visit_292 rfl 0 rfl ?_
          refine gf_7_25 C (List.mem_cons_of_mem _ wm741) dM_visit_293 ?_
          refine x_iload_n C dM_visit_296 rfl 1 rfl ?_
          obtain ⟨g21, h⟩ := h
          refine y_ia C 53 (by decide) g21 dM_visit_297 ?_
          obtain ⟨g22, h⟩ := h
          refine y_ia C 55 (by decide) g22 dM_visit_298 ?_
          refine x_aload_n C dM_visit_299 rfl 0 rfl ?_
          refine x_aload_n C dM_visit_300 rfl 0 rfl ?_
          refine gf_7_27 C (List.mem_cons_of_mem _ wm743) dM_visit_301 ?_
          refine x_aload_n C dM_visit_304 rfl 0 rfl ?_
          refine gf_7_26 C (List.mem_cons_of_mem _ wm742) dM_visit_305 ?_
          refine x_iload_n C dM_visit_308 rfl 1 rfl ?_
          obtain ⟨g23, h⟩ := h
          refine y_ia C 54 (by decide) g23 dM_visit_309 ?_
          obtain ⟨g24, h⟩ := h
          refine y_ia C 55 (by decide) g24 dM_visit_310 ?_
          refine x_aload_n C dM_visit_311 rfl 0 rfl ?_
          refine gf_7_27 C (List.mem_cons_of_mem _ wm743) dM_visit_312 ?_
          refine x_iload_n C dM_visit_315 rfl 1 rfl ?_
          obtain ⟨g25, h⟩ := h
          refine y_ia C 55 (by decide) g25 dM_visit_316 ?_
          refine kM_arrow C wm1066 ⟨Nat.le_of_ble_eq_true rfl, Nat.le_of_ble_eq_true rfl⟩ (Nat.le_of_ble_eq_true rfl) dM_visit_317 ⟨Nat.zero_le _, Nat.zero_le _⟩ h (fun z26 r27 h => ?_)
          refine kM_unify C wm1094 ⟨Nat.le_of_ble_eq_true rfl, Nat.le_of_ble_eq_true rfl⟩ (Nat.le_of_ble_eq_true rfl) dM_visit_320 ⟨Nat.zero_le _, Nat.zero_le _⟩ h (fun r28 h => ?_)
          refine x_goto (tgt := 343) C dM_visit_323 (by decide) ?_
          refine x_iconst (v := (-1)) C dM_visit_343 (by decide) ?_
          exact x_iret C hA hlocks hr ⟨r28, rfl, h⟩ dM_visit_344
      · have h := h.2 g11
        refine x_iload_n C dM_visit_255 rfl 2 rfl ?_
        refine x_iconst (v := 3) C dM_visit_256 (by decide) ?_
        refine x_icmp_ne (tgt := 265) C dM_visit_257 (by decide) (fun g29 => ?_) (fun g29 => ?_)
        · have h := h.1 g29
          refine x_sub [0, 1] rfl ?_
          exact tM_visit_J265 C hA hlocks hr r v1 h
        · have h := h.2 g29
          refine x_aload_n C dM_visit_260 rfl 0 rfl ?_
          refine x_iload_n C dM_visit_261 rfl 1 rfl ?_
          refine kM_generalise C wm1070 ⟨Nat.le_of_ble_eq_true rfl, Nat.le_of_ble_eq_true rfl⟩ (Nat.le_of_ble_eq_true rfl) dM_visit_262 ⟨Nat.zero_le _, Nat.zero_le _⟩ h (fun r31 h => ?_)
          refine x_sub [0, 1] rfl ?_
          exact tM_visit_J265 C hA hlocks hr r31 v1 h
    · have h := h.2 g10
      refine x_aload_n C dM_visit_233 rfl 0 rfl ?_
      refine gf_7_33 C (List.mem_cons_of_mem _ wm749) dM_visit_234 ?_
      refine x_iload_n C dM_visit_237 rfl 1 rfl ?_
      refine x_aload_n C dM_visit_238 rfl 0 rfl ?_
      refine gf_7_53 C (List.mem_cons_of_mem _ wm769) dM_visit_239 ?_
      obtain ⟨g32, h⟩ := h
      refine y_is C 61 (by decide) g32 dM_visit_242 (fun r33 er33 => ?_)
      have h := h r33 er33
      refine x_aload_n C dM_visit_243 rfl 0 rfl ?_
      refine gf_7_25 C (List.mem_cons_of_mem _ wm741) dM_visit_244 ?_
      refine x_iload_n C dM_visit_247 rfl 1 rfl ?_
      obtain ⟨g34, h⟩ := h
      refine y_ia C 53 (by decide) g34 dM_visit_248 ?_
      exact x_iret C hA hlocks hr ⟨r33, rfl, h⟩ dM_visit_249
  · have h := h.2 g9
    refine x_aload_n C dM_visit_199 rfl 0 rfl ?_
    refine gf_7_27 C (List.mem_cons_of_mem _ wm743) dM_visit_200 ?_
    refine x_iload_n C dM_visit_203 rfl 1 rfl ?_
    refine x_aload_n C dM_visit_204 rfl 0 rfl ?_
    refine x_aload_n C dM_visit_205 rfl 0 rfl ?_
    refine gf_7_28 C (List.mem_cons_of_mem _ wm744) dM_visit_206 ?_
    refine x_iload_n C dM_visit_209 rfl 1 rfl ?_
    obtain ⟨g35, h⟩ := h
    refine y_ia C 56 (by decide) g35 dM_visit_210 ?_
    refine x_aload_n C dM_visit_211 rfl 0 rfl ?_
    refine gf_7_27 C (List.mem_cons_of_mem _ wm743) dM_visit_212 ?_
    refine x_aload_n C dM_visit_215 rfl 0 rfl ?_
    refine gf_7_25 C (List.mem_cons_of_mem _ wm741) dM_visit_216 ?_
    refine x_iload_n C dM_visit_219 rfl 1 rfl ?_
    obtain ⟨g36, h⟩ := h
    refine y_ia C 53 (by decide) g36 dM_visit_220 ?_
    obtain ⟨g37, h⟩ := h
    refine y_ia C 55 (by decide) g37 dM_visit_221 ?_
    refine kM_arrow C wm1066 ⟨Nat.le_of_ble_eq_true rfl, Nat.le_of_ble_eq_true rfl⟩ (Nat.le_of_ble_eq_true rfl) dM_visit_222 ⟨Nat.zero_le _, Nat.zero_le _⟩ h (fun z38 r39 h => ?_)
    obtain ⟨g40, h⟩ := h
    refine y_is C 55 (by decide) g40 dM_visit_225 (fun r41 er41 => ?_)
    have h := h r41 er41
    refine x_goto (tgt := 343) C dM_visit_226 (by decide) ?_
    refine x_iconst (v := (-1)) C dM_visit_343 (by decide) ?_
    exact x_iret C hA hlocks hr ⟨r41, rfl, h⟩ dM_visit_344
def qM_visit_J120 (a : L_) (KB72 : S_ → Int32 → Int32 → Prop) (KX126 : S_ → Prop) (r : S_) (v4 : Int32) (v5 : Int32) : Prop :=
  KB72 r v4 (v5 + 1)
set_option maxRecDepth 100000 in
set_option maxHeartbeats 4000000 in
theorem tM_visit_J120 (C : vx_C p s m args c prog_9_method_40_code 6 (Cond.code yM_visit prog_9_method_40_code 6 (some .int) :: wAll) "ClassInferenceModel" D vwCl (tysG G) nwAll A) {a : L_} {KB72 : S_ → Int32 → Int32 → Prop} {KX126 : S_ → Prop} (kB72 : ∀ (r : S_) (v4 : Int32) (v5 : Int32), KB72 r v4 v5 → vx_V p l e { frames := 4, cells := 0, slots := 0, locals := 93 } s m args below meth c A D vwCl 6 0 0 Q (wo G a r) 72 [(0, .ref (ob G 7)), (4, .int v4), (5, .int v5)] []) (kX126 : ∀ (r : S_), KX126 r → vx_V p l e { frames := 4, cells := 0, slots := 0, locals := 93 } s m args below meth c A D vwCl 6 0 0 Q (wo G a r) 126 [(0, .ref (ob G 7))] []) (r : S_) (v4 : Int32) (v5 : Int32) (h : qM_visit_J120 a KB72 KX126 r v4 v5) : vx_V p l e { frames := 4, cells := 0, slots := 0, locals := 93 } s m args below meth c A D vwCl 6 0 0 Q (wo G a r) 120 [(0, .ref (ob G 7)), (4, .int v4), (5, .int v5)] [] := by
  unfold qM_visit_J120 at h
  refine x_iinc (j := 2) (v := v5 + 1) C [(5, .int (v5 + 1)), (0, .ref (ob G 7)), (4, .int v4)] dM_visit_120 rfl rfl (by decide) rfl ?_
  refine x_goto (tgt := 72) C dM_visit_123 (by decide) ?_
  refine x_sub [1, 2, 0] rfl ?_
  exact kB72 r v4 (v5 + 1) h
def qM_visit_L72 (a : L_) (KX126 : S_ → Prop) : Nat → S_ → Int32 → Int32 → Prop
  | 0, _, _, _ => False
  | n + 1, r, v4, v5 => vp_in v4 (ln a 42) ∧ (((ar r 42 v4.toNatClampNeg) < v5) → KX126 r) ∧ ((¬ (ar r 42 v4.toNatClampNeg) < v5) → vp_in v5 (ln a 88) ∧ (((ar r 88 v5.toNatClampNeg) = 0) → qM_visit_J120 a (qM_visit_L72 a KX126 n) KX126 r v4 v5) ∧ ((¬ (ar r 88 v5.toNatClampNeg) = 0) → vp_in v5 (ln a 37) ∧ ((¬ (ar r 37 v5.toNatClampNeg) = (-1)) → qM_visit_J120 a (qM_visit_L72 a KX126 n) KX126 r v4 v5) ∧ (((ar r 37 v5.toNatClampNeg) = (-1)) → vp_in v5 (ln a 74) ∧ qM_addWant a (fun r69 => qM_visit_J120 a (qM_visit_L72 a KX126 n) KX126 r69 v4 v5) r (ar r 74 v5.toNatClampNeg) (1 <<< (v4 &&& 31)))))
set_option maxRecDepth 100000 in
set_option maxHeartbeats 4000000 in
theorem tM_visit_L72 (C : vx_C p s m args c prog_9_method_40_code 6 (Cond.code yM_visit prog_9_method_40_code 6 (some .int) :: wAll) "ClassInferenceModel" D vwCl (tysG G) nwAll A) {a : L_} {KX126 : S_ → Prop} (kX126 : ∀ (r : S_), KX126 r → vx_V p l e { frames := 4, cells := 0, slots := 0, locals := 93 } s m args below meth c A D vwCl 6 0 0 Q (wo G a r) 126 [(0, .ref (ob G 7))] []) : ∀ (n : Nat) (r : S_) (v4 : Int32) (v5 : Int32), qM_visit_L72 a KX126 n r v4 v5 → vx_V p l e { frames := 4, cells := 0, slots := 0, locals := 93 } s m args below meth c A D vwCl 6 0 0 Q (wo G a r) 72 [(0, .ref (ob G 7)), (4, .int v4), (5, .int v5)] [] := by
  intro n
  induction n with
  | zero =>
    intro r v4 v5 h
    exact (by rw [qM_visit_L72] at h; exact h : False).elim
  | succ n kB72 =>
    intro r v4 v5 h
    rw [qM_visit_L72] at h
    refine x_iload C dM_visit_72 2 rfl ?_
    refine x_aload_n C dM_visit_74 rfl 0 rfl ?_
    refine gf_7_10 C (List.mem_cons_of_mem _ wm726) dM_visit_75 ?_
    refine x_iload C dM_visit_78 1 rfl ?_
    obtain ⟨g62, h⟩ := h
    refine y_ia C 42 (by decide) g62 dM_visit_80 ?_
    refine x_icmp_gt (tgt := 126) C dM_visit_81 (by decide) (fun g63 => ?_) (fun g63 => ?_)
    · have h := h.1 g63
      refine x_sub [0] rfl ?_
      exact kX126 r h
    · have h := h.2 g63
      refine x_aload_n C dM_visit_84 rfl 0 rfl ?_
      refine gf_7_52 C (List.mem_cons_of_mem _ wm768) dM_visit_85 ?_
      refine x_iload C dM_visit_88 2 rfl ?_
      obtain ⟨g64, h⟩ := h
      refine y_za C 88 (by decide) g64 dM_visit_90 ?_
      refine x_if_eq (tgt := 120) C dM_visit_91 (by decide) (fun g65 => ?_) (fun g65 => ?_)
      · have h := h.1 g65
        refine x_sub [0, 1, 2] rfl ?_
        exact tM_visit_J120 C kB72 kX126 r v4 v5 h
      · have h := h.2 g65
        refine x_aload_n C dM_visit_94 rfl 0 rfl ?_
        refine gf_7_4 C (List.mem_cons_of_mem _ wm720) dM_visit_95 ?_
        refine x_iload C dM_visit_98 2 rfl ?_
        obtain ⟨g66, h⟩ := h
        refine y_ia C 37 (by decide) g66 dM_visit_100 ?_
        refine x_iconst (v := (-1)) C dM_visit_101 (by decide) ?_
        refine x_icmp_ne (tgt := 120) C dM_visit_102 (by decide) (fun g67 => ?_) (fun g67 => ?_)
        · have h := h.1 g67
          refine x_sub [0, 1, 2] rfl ?_
          exact tM_visit_J120 C kB72 kX126 r v4 v5 h
        · have h := h.2 g67
          refine x_aload_n C dM_visit_105 rfl 0 rfl ?_
          refine x_aload_n C dM_visit_106 rfl 0 rfl ?_
          refine gf_7_51 C (List.mem_cons_of_mem _ wm767) dM_visit_107 ?_
          refine x_iload C dM_visit_110 2 rfl ?_
          obtain ⟨g68, h⟩ := h
          refine y_ia C 74 (by decide) g68 dM_visit_112 ?_
          refine x_iconst (v := 1) C dM_visit_113 (by decide) ?_
          refine x_iload C dM_visit_114 1 rfl ?_
          refine x_ishl C dM_visit_116 ?_
          refine kM_addWant C wm1051 ⟨Nat.le_of_ble_eq_true rfl, Nat.le_of_ble_eq_true rfl⟩ (Nat.le_of_ble_eq_true rfl) dM_visit_117 ⟨Nat.zero_le _, Nat.zero_le _⟩ h (fun r69 h => ?_)
          refine x_sub [0, 1, 2] rfl ?_
          exact tM_visit_J120 C kB72 kX126 r69 v4 v5 h
def qM_visit (a : L_) (K : Int32 → S_ → Prop) (r : S_) (p0 : Int32) : Prop :=
  qM_kindOf a r (fun z1 => vp_in p0 (ln a 59) ∧ vp_in p0 (ln a 59) ∧ ∀ r4 : S_, r4 = sA r 59 (upd (ar r 59) p0.toNatClampNeg ((ar r 59 p0.toNatClampNeg) + 1)) → ((¬ z1 = 0) → ((¬ z1 = 4) → ((¬ z1 = 5) → ((¬ z1 = 1) → qM_visit_J194 a K r4 p0 z1 (ar r 59 p0.toNatClampNeg)) ∧ ((z1 = 1) → ((¬ (ar r 59 p0.toNatClampNeg) = 0) → qM_visit_J194 a K r4 p0 z1 (ar r 59 p0.toNatClampNeg)) ∧ (((ar r 59 p0.toNatClampNeg) = 0) → qM_fresh a (fun z43 r44 => vp_in p0 (ln a 56) ∧ ∀ r46 : S_, r46 = sA r44 56 (upd (ar r44 56) p0.toNatClampNeg z43) → vp_in p0 (ln a 53) ∧ K (ar r46 53 p0.toNatClampNeg) r46) r4))) ∧ ((z1 = 5) → vp_in p0 (ln a 50) ∧ vp_in (ar r4 50 p0.toNatClampNeg) (ln a 46) ∧ qM_copyStatic a (fun z50 r51 => vp_in p0 (ln a 55) ∧ ∀ r53 : S_, r53 = sA r51 55 (upd (ar r51 55) p0.toNatClampNeg z50) → K (-1) r53) r4 (ar r4 46 (ar r4 50 p0.toNatClampNeg).toNatClampNeg))) ∧ ((z1 = 4) → vp_in p0 (ln a 50) ∧ vp_in (ar r4 50 p0.toNatClampNeg) (ln a 46) ∧ ∀ z56 : Int32, z56 = ar r4 46 (ar r4 50 p0.toNatClampNeg).toNatClampNeg → vp_in z56 (ln a 42) ∧ qM_copyStatic a (fun z58 r59 => vp_in p0 (ln a 55) ∧ ∀ r61 : S_, r61 = sA r59 55 (upd (ar r59 55) p0.toNatClampNeg z58) → ∃ n71 : Nat, qM_visit_L72 a (fun r => ∀ r70 : S_, r70 = sF r 35 ((fi r 35) + 1) → K (-1) r70) n71 r61 z56 0) r4 (ar r4 42 z56.toNatClampNeg))) ∧ ((z1 = 0) → qM_typeName a (fun r72 => K (-1) r72) r4 p0)) p0
set_option maxRecDepth 100000 in
set_option maxHeartbeats 4000000 in
theorem cM_visit {a : L_} {r : S_} {K : Int32 → S_ → Prop} (p0 : Int32) (h : qM_visit a K r p0) : vx_Mi l yM_visit (Cond.code yM_visit prog_9_method_40_code 6 (some .int) :: wAll) { frames := 4, cells := 0, slots := 0, locals := 93 } D vwCl (tysG G) nwAll (wo G a r) [.ref (ob G 7), .int p0] 0 0 (fun v w => ∃ r1, w = wo G a r1 ∧ K v r1) := by
  unfold qM_visit at h
  refine x_meti (cc := prog_9_method_40_code) (maxL := 6) (ret := (some .int)) (lv0 := [(0, .ref (ob G 7)), (1, .int p0)]) (by decide) rfl (Nat.le_of_ble_eq_true rfl) rfl ?_
  intro p e s m args below meth c A C hA hlocks hr
  refine x_aload_n C dM_visit_0 rfl 0 rfl ?_
  refine x_iload_n C dM_visit_1 rfl 1 rfl ?_
  refine kM_kindOf C wm1019 ⟨Nat.le_of_ble_eq_true rfl, Nat.le_of_ble_eq_true rfl⟩ (Nat.le_of_ble_eq_true rfl) dM_visit_2 ⟨Nat.zero_le _, Nat.zero_le _⟩ h (fun z1 h => ?_)
  refine x_istore_n C [(2, .int z1), (0, .ref (ob G 7)), (1, .int p0)] dM_visit_5 rfl (by decide) rfl ?_
  refine x_aload_n C dM_visit_6 rfl 1 rfl ?_
  refine gf_7_31 C (List.mem_cons_of_mem _ wm747) dM_visit_7 ?_
  refine x_iload_n C dM_visit_10 rfl 2 rfl ?_
  obtain ⟨g2, h⟩ := h
  refine y_ia C 59 (by decide) g2 dM_visit_11 ?_
  refine x_istore_n C [(3, .int (ar r 59 p0.toNatClampNeg)), (2, .int z1), (0, .ref (ob G 7)), (1, .int p0)] dM_visit_12 rfl (by decide) rfl ?_
  refine x_aload_n C dM_visit_13 rfl 2 rfl ?_
  refine gf_7_31 C (List.mem_cons_of_mem _ wm747) dM_visit_14 ?_
  refine x_iload_n C dM_visit_17 rfl 3 rfl ?_
  refine x_iload_n C dM_visit_18 rfl 0 rfl ?_
  refine x_iconst (v := 1) C dM_visit_19 (by decide) ?_
  refine x_iadd C dM_visit_20 ?_
  obtain ⟨g3, h⟩ := h
  refine y_is C 59 (by decide) g3 dM_visit_21 (fun r4 er4 => ?_)
  have h := h r4 er4
  refine x_iload_n C dM_visit_22 rfl 1 rfl ?_
  refine x_if_ne (tgt := 34) C dM_visit_23 (by decide) (fun g5 => ?_) (fun g5 => ?_)
  · have h := h.1 g5
    refine x_iload_n C dM_visit_34 rfl 1 rfl ?_
    refine x_iconst (v := 4) C dM_visit_35 (by decide) ?_
    refine x_icmp_ne (tgt := 139) C dM_visit_36 (by decide) (fun g6 => ?_) (fun g6 => ?_)
    · have h := h.1 g6
      refine x_iload_n C dM_visit_139 rfl 1 rfl ?_
      refine x_iconst (v := 5) C dM_visit_140 (by decide) ?_
      refine x_icmp_ne (tgt := 168) C dM_visit_141 (by decide) (fun g7 => ?_) (fun g7 => ?_)
      · have h := h.1 g7
        refine x_iload_n C dM_visit_168 rfl 1 rfl ?_
        refine x_iconst (v := 1) C dM_visit_169 (by decide) ?_
        refine x_icmp_ne (tgt := 194) C dM_visit_170 (by decide) (fun g8 => ?_) (fun g8 => ?_)
        · have h := h.1 g8
          refine x_sub [2, 3, 1, 0] rfl ?_
          exact tM_visit_J194 C hA hlocks hr r4 p0 z1 (ar r 59 p0.toNatClampNeg) h
        · have h := h.2 g8
          refine x_iload_n C dM_visit_173 rfl 0 rfl ?_
          refine x_if_ne (tgt := 194) C dM_visit_174 (by decide) (fun g42 => ?_) (fun g42 => ?_)
          · have h := h.1 g42
            refine x_sub [2, 3, 1, 0] rfl ?_
            exact tM_visit_J194 C hA hlocks hr r4 p0 z1 (ar r 59 p0.toNatClampNeg) h
          · have h := h.2 g42
            refine x_aload_n C dM_visit_177 rfl 2 rfl ?_
            refine gf_7_28 C (List.mem_cons_of_mem _ wm744) dM_visit_178 ?_
            refine x_iload_n C dM_visit_181 rfl 3 rfl ?_
            refine x_aload_n C dM_visit_182 rfl 2 rfl ?_
            refine kM_fresh C wm1062 ⟨Nat.le_of_ble_eq_true rfl, Nat.le_of_ble_eq_true rfl⟩ (Nat.le_of_ble_eq_true rfl) dM_visit_183 ⟨Nat.zero_le _, Nat.zero_le _⟩ h (fun z43 r44 h => ?_)
            obtain ⟨g45, h⟩ := h
            refine y_is C 56 (by decide) g45 dM_visit_186 (fun r46 er46 => ?_)
            have h := h r46 er46
            refine x_aload_n C dM_visit_187 rfl 2 rfl ?_
            refine gf_7_25 C (List.mem_cons_of_mem _ wm741) dM_visit_188 ?_
            refine x_iload_n C dM_visit_191 rfl 3 rfl ?_
            obtain ⟨g47, h⟩ := h
            refine y_ia C 53 (by decide) g47 dM_visit_192 ?_
            exact x_iret C hA hlocks hr ⟨r46, rfl, h⟩ dM_visit_193
      · have h := h.2 g7
        refine x_aload_n C dM_visit_144 rfl 2 rfl ?_
        refine gf_7_27 C (List.mem_cons_of_mem _ wm743) dM_visit_145 ?_
        refine x_iload_n C dM_visit_148 rfl 3 rfl ?_
        refine x_aload_n C dM_visit_149 rfl 2 rfl ?_
        refine x_aload_n C dM_visit_150 rfl 2 rfl ?_
        refine gf_7_17 C (List.mem_cons_of_mem _ wm733) dM_visit_151 ?_
        refine x_aload_n C dM_visit_154 rfl 2 rfl ?_
        refine gf_7_22 C (List.mem_cons_of_mem _ wm738) dM_visit_155 ?_
        refine x_iload_n C dM_visit_158 rfl 3 rfl ?_
        obtain ⟨g48, h⟩ := h
        refine y_ia C 50 (by decide) g48 dM_visit_159 ?_
        obtain ⟨g49, h⟩ := h
        refine y_ia C 46 (by decide) g49 dM_visit_160 ?_
        refine kM_copyStatic C wm1058 ⟨Nat.le_of_ble_eq_true rfl, Nat.le_of_ble_eq_true rfl⟩ (Nat.le_of_ble_eq_true rfl) dM_visit_161 ⟨Nat.zero_le _, Nat.zero_le _⟩ h (fun z50 r51 h => ?_)
        obtain ⟨g52, h⟩ := h
        refine y_is C 55 (by decide) g52 dM_visit_164 (fun r53 er53 => ?_)
        have h := h r53 er53
        refine x_goto (tgt := 343) C dM_visit_165 (by decide) ?_
        refine x_iconst (v := (-1)) C dM_visit_343 (by decide) ?_
        exact x_iret C hA hlocks hr ⟨r53, rfl, h⟩ dM_visit_344
    · have h := h.2 g6
      refine x_aload_n C dM_visit_39 rfl 2 rfl ?_
      refine gf_7_17 C (List.mem_cons_of_mem _ wm733) dM_visit_40 ?_
      refine x_aload_n C dM_visit_43 rfl 2 rfl ?_
      refine gf_7_22 C (List.mem_cons_of_mem _ wm738) dM_visit_44 ?_
      refine x_iload_n C dM_visit_47 rfl 3 rfl ?_
      obtain ⟨g54, h⟩ := h
      refine y_ia C 50 (by decide) g54 dM_visit_48 ?_
      obtain ⟨g55, h⟩ := h
      refine y_ia C 46 (by decide) g55 dM_visit_49 ?_
      refine x_topi (fun z56 ez56 => ?_)
      have h := h z56 ez56
      refine x_istore C [(4, .int z56), (3, .int (ar r 59 p0.toNatClampNeg)), (2, .int z1), (0, .ref (ob G 7)), (1, .int p0)] dM_visit_50 (by decide) rfl ?_
      refine x_aload_n C dM_visit_52 rfl 3 rfl ?_
      refine gf_7_27 C (List.mem_cons_of_mem _ wm743) dM_visit_53 ?_
      refine x_iload_n C dM_visit_56 rfl 4 rfl ?_
      refine x_aload_n C dM_visit_57 rfl 3 rfl ?_
      refine x_aload_n C dM_visit_58 rfl 3 rfl ?_
      refine gf_7_10 C (List.mem_cons_of_mem _ wm726) dM_visit_59 ?_
      refine x_iload C dM_visit_62 0 rfl ?_
      obtain ⟨g57, h⟩ := h
      refine y_ia C 42 (by decide) g57 dM_visit_64 ?_
      refine kM_copyStatic C wm1058 ⟨Nat.le_of_ble_eq_true rfl, Nat.le_of_ble_eq_true rfl⟩ (Nat.le_of_ble_eq_true rfl) dM_visit_65 ⟨Nat.zero_le _, Nat.zero_le _⟩ h (fun z58 r59 h => ?_)
      obtain ⟨g60, h⟩ := h
      refine y_is C 55 (by decide) g60 dM_visit_68 (fun r61 er61 => ?_)
      have h := h r61 er61
      refine x_iconst (v := 0) C dM_visit_69 (by decide) ?_
      refine x_istore C [(5, .int 0), (4, .int z56), (3, .int (ar r 59 p0.toNatClampNeg)), (2, .int z1), (0, .ref (ob G 7)), (1, .int p0)] dM_visit_70 (by decide) rfl ?_
      obtain ⟨n71, h⟩ := h
      refine x_sub [4, 1, 0] rfl ?_
      refine tM_visit_L72 C (fun r h => ?_) n71 r61 z56 0 h
      · refine x_aload_n C dM_visit_126 rfl 0 rfl ?_
        refine x_dup C dM_visit_127 rfl ?_
        refine gf_7_59 C (List.mem_cons_of_mem _ wm775) dM_visit_128 ?_
        refine x_iconst (v := 1) C dM_visit_131 (by decide) ?_
        refine x_iadd C dM_visit_132 ?_
        refine pf_7_59 C (List.mem_cons_of_mem _ wm775) dM_visit_133 (fun r70 er70 => ?_)
        have h := h r70 er70
        refine x_goto (tgt := 343) C dM_visit_136 (by decide) ?_
        refine x_iconst (v := (-1)) C dM_visit_343 (by decide) ?_
        exact x_iret C hA hlocks hr ⟨r70, rfl, h⟩ dM_visit_344
  · have h := h.2 g5
    refine x_aload_n C dM_visit_26 rfl 2 rfl ?_
    refine x_iload_n C dM_visit_27 rfl 3 rfl ?_
    refine kM_typeName C wm1023 ⟨Nat.le_of_ble_eq_true rfl, Nat.le_of_ble_eq_true rfl⟩ (Nat.le_of_ble_eq_true rfl) dM_visit_28 ⟨Nat.zero_le _, Nat.zero_le _⟩ h (fun r72 h => ?_)
    refine x_goto (tgt := 343) C dM_visit_31 (by decide) ?_
    refine x_iconst (v := (-1)) C dM_visit_343 (by decide) ?_
    exact x_iret C hA hlocks hr ⟨r72, rfl, h⟩ dM_visit_344
set_option maxRecDepth 100000 in
set_option maxHeartbeats 4000000 in
theorem kM_visit {p : Program} {l : Launch} {e : Env} {R : Room} {s : State} {m : MethodId} {args : Array Value} {below : List Frame} {meth : Method} {c : Code} {cells slots : Nat} {Q : State → Prop} {A : Nat → Prop} {D : va_G} {nL pc : Nat} {cc : ByteArray} {cw : Cond} {own : String} {lv : List (Nat × Value)} {st : List Value} {G : G_} {a : L_} {r : S_} {K : Int32 → S_ → Prop} {p0 : Int32} (C : vx_C p s m args c cc nL (cw :: wAll) own D vwCl (tysG G) nwAll A) {i : Nat} (hl : Cond.methodLink own i yM_visit ∈ wAll) (hR : 4 + 1 ≤ R.frames ∧ 8 + (6 + 11) + 93 ≤ R.locals) (hst : (st.map fun v => v.category).sum ≤ 8) (hd : decode cc pc = .ok (.invokevirtual i, 3)) (hcs : cells ≤ R.cells ∧ slots ≤ R.slots) (h : qM_visit a K r p0) (k : ∀ (v : Int32) (r1 : S_), K v r1 → vx_V p l e R s m args below meth c A D vwCl nL cells slots Q (wo G a r1) (pc + 3) lv (.int v :: st)) : vx_V p l e R s m args below meth c A D vwCl nL cells slots Q (wo G a r) pc lv (.int p0 :: .ref (ob G 7) :: st) := by
  refine x_callVi C (CC := "ClassInferenceModel") (ci := 7) (q0 := 7) (fs := fl7 G a r) (As := [.int p0]) rfl rfl (cM_visit p0 h) (cwV (C := "ClassInferenceModel") 1 C.1.2.2.2.2 (goodV hl wm1017 wp40 wm9 wm1018) rfl rfl rfl (by decide +kernel) hR) rfl hst hd hcs (fun v w hw => ?_)
  obtain ⟨r1, rfl, h⟩ := hw
  exact k v r1 h
end MTH
