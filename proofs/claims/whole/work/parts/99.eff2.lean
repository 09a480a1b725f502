abbrev yY_typeOfName : MethodName := { cls := "ClassInference$Typer", name := "typeOfName", desc := "(I)I" }
abbrev yG_newNode : MethodName := { cls := "ClassInference$Graph", name := "newNode", desc := "(III)I" }
abbrev yG_copyOf : MethodName := { cls := "ClassInference$Graph", name := "copyOf", desc := "(I)I" }
theorem wm211 : (Jvm.Cond.fieldLink "ClassInference$Typer" (50 : Nat) "ClassInference$Typer" "handed" "I") ∈ wAll := mw 211 (by decide +kernel) (by decide +kernel)
theorem wm439 : (Jvm.Cond.methodLink "ClassInference$Typer" (114 : Nat) ({ cls := "ClassInference$Graph", name := "newNode", desc := "(III)I" } : Jvm.MethodName)) ∈ wAll := mw 439 (by decide +kernel) (by decide +kernel)
theorem wm440 : (Jvm.Cond.instanceMethod ({ cls := "ClassInference$Graph", name := "newNode", desc := "(III)I" } : Jvm.MethodName)) ∈ wAll := mw 440 (by decide +kernel) (by decide +kernel)
theorem wm441 : (Jvm.Cond.selects "ClassInference$Graph" ({ cls := "ClassInference$Graph", name := "newNode", desc := "(III)I" } : Jvm.MethodName) ({ cls := "ClassInference$Graph", name := "newNode", desc := "(III)I" } : Jvm.MethodName)) ∈ wAll := mw 441 (by decide +kernel) (by decide +kernel)
theorem wm442 : (Jvm.Cond.code ({ cls := "ClassInference$Graph", name := "newNode", desc := "(III)I" } : Jvm.MethodName) prog_4_method_3_code (4 : Nat) (Option.some Jvm.ClassFile.FieldType.int)) ∈ wAll := mw 442 (by decide +kernel) (by decide +kernel)
theorem wm586 : (Jvm.Cond.instanceMethod ({ cls := "ClassInference$Typer", name := "typeOfName", desc := "(I)I" } : Jvm.MethodName)) ∈ wAll := mw 586 (by decide +kernel) (by decide +kernel)
theorem wm587 : (Jvm.Cond.code ({ cls := "ClassInference$Typer", name := "typeOfName", desc := "(I)I" } : Jvm.MethodName) prog_7_method_4_code (3 : Nat) (Option.some Jvm.ClassFile.FieldType.int)) ∈ wAll := mw 587 (by decide +kernel) (by decide +kernel)
theorem wm588 : (Jvm.Cond.methodLink "ClassInference$Typer" (111 : Nat) ({ cls := "ClassInference$Graph", name := "copyOf", desc := "(I)I" } : Jvm.MethodName)) ∈ wAll := mw 588 (by decide +kernel) (by decide +kernel)
theorem wm589 : (Jvm.Cond.instanceMethod ({ cls := "ClassInference$Graph", name := "copyOf", desc := "(I)I" } : Jvm.MethodName)) ∈ wAll := mw 589 (by decide +kernel) (by decide +kernel)
theorem wm590 : (Jvm.Cond.selects "ClassInference$Graph" ({ cls := "ClassInference$Graph", name := "copyOf", desc := "(I)I" } : Jvm.MethodName) ({ cls := "ClassInference$Graph", name := "copyOf", desc := "(I)I" } : Jvm.MethodName)) ∈ wAll := mw 590 (by decide +kernel) (by decide +kernel)
theorem wm591 : (Jvm.Cond.code ({ cls := "ClassInference$Graph", name := "copyOf", desc := "(I)I" } : Jvm.MethodName) prog_4_method_16_code (5 : Nat) (Option.some Jvm.ClassFile.FieldType.int)) ∈ wAll := mw 591 (by decide +kernel) (by decide +kernel)
theorem wm594 : (Jvm.Cond.methodLink "ClassInference$Graph" (100 : Nat) ({ cls := "ClassInference$Graph", name := "valueOf", desc := "(I)I" } : Jvm.MethodName)) ∈ wAll := mw 594 (by decide +kernel) (by decide +kernel)
theorem wm598 : (Jvm.Cond.methodLink "ClassInference$Graph" (103 : Nat) ({ cls := "ClassInference$Graph", name := "newNode", desc := "(III)I" } : Jvm.MethodName)) ∈ wAll := mw 598 (by decide +kernel) (by decide +kernel)
theorem wn166 : (Jvm.Cond.fieldLinkNest "ClassInference$Typer" (71 : Nat) "ClassInference$Graph" "clash" "Z" "ClassInference") ∈ nwAll := mwN 166 (by decide +kernel) (by decide +kernel)
theorem wp26 : Cond.selects "ClassInference$Typer" ⟨"ClassInference$Typer", "typeOfName", "(I)I"⟩ ⟨"ClassInference$Typer", "typeOfName", "(I)I"⟩ ∈ wAll := mwP 26 (by decide +kernel) (by decide +kernel)
section MTH2
variable {p : Program} {l : Launch} {e : Env} {s : State} {m : MethodId} {args : Array Value} {below : List Frame} {meth : Method} {c : Code} {Q : State → Prop} {A : Nat → Prop} {D : va_G} {G : G_} {ws0 : va_W} {mc ms : Nat}
def qG_newNode_J40 (K : Int32 → L_ → S_ → Prop) (a : L_) (r : S_) (kc : Nat) (ks : Nat) (v1 : Int32) (v2 : Int32) (v3 : Int32) : Prop :=
  vp_in (fi r 11) (ln a 21) ∧ ∀ r4 : S_, r4 = sA r 21 (upd (ar r 21) (fi r 11).toNatClampNeg v1) → vp_in (fi r4 11) (ln a 22) ∧ ∀ r6 : S_, r6 = sA r4 22 (upd (ar r4 22) (fi r4 11).toNatClampNeg v2) → vp_in (fi r6 11) (ln a 23) ∧ ∀ r8 : S_, r8 = sA r6 23 (upd (ar r6 23) (fi r6 11).toNatClampNeg v3) → vp_in (fi r8 11) (ln a 24) ∧ ∀ r10 : S_, r10 = sA r8 24 (upd (ar r8 24) (fi r8 11).toNatClampNeg 0) → vp_in (fi r10 11) (ln a 25) ∧ ∀ r12 : S_, r12 = sA r10 25 (upd (ar r10 25) (fi r10 11).toNatClampNeg 0) → vp_in (fi r12 11) (ln a 26) ∧ ∀ r14 : S_, r14 = sA r12 26 (upd (ar r12 26) (fi r12 11).toNatClampNeg 0) → vp_in (fi r14 11) (ln a 27) ∧ ∀ r16 : S_, r16 = sA r14 27 (upd (ar r14 27) (fi r14 11).toNatClampNeg 0) → ∀ r17 : S_, r17 = sF r16 11 ((fi r16 11) + 1) → K ((fi r17 11) - 1) a r17
set_option maxRecDepth 100000 in
set_option maxHeartbeats 4000000 in
theorem tG_newNode_J40 (C : vx_C p s m args c prog_4_method_3_code 4 (Cond.code yG_newNode prog_4_method_3_code 4 (some .int) :: wAll) "ClassInference$Graph" D vwCl (tysG G) nwAll A) (hA : A = va_A ws0 s.heap.size) (hlocks : meth.locks = false) (hr : meth.sig.returnType = (some .int)) {K : Int32 → L_ → S_ → Prop} (a : L_) (r : S_) (kc : Nat) (ks : Nat) (v1 : Int32) (v2 : Int32) (v3 : Int32) (u v : Nat) (hu : u + kc ≤ mc) (hv : v + ks ≤ ms) (h : qG_newNode_J40 K a r kc ks v1 v2 v3) : vx_V p l e { frames := 0, cells := mc, slots := ms, locals := 0 } s m args below meth c A D vwCl 4 u v (MQ below (va_Qi (fun v w => ∃ a1 r1, w = wo G a1 r1 ∧ K v a1 r1) (vx_B D vwCl (tysG G) A) A) args s mc ms A) (wo G a r) 40 [(0, .ref (ob G 5)), (1, .int v1), (2, .int v2), (3, .int v3)] [] := by
  unfold qG_newNode_J40 at h
  refine x_aload_n C dG_newNode_40 rfl 0 rfl ?_
  refine gf_5_0 C (List.mem_cons_of_mem _ wm139) dG_newNode_41 ?_
  refine x_aload_n C dG_newNode_44 rfl 0 rfl ?_
  refine gf_5_7 C (List.mem_cons_of_mem _ wm153) dG_newNode_45 ?_
  refine x_iload_n C dG_newNode_48 rfl 1 rfl ?_
  obtain ⟨g3, h⟩ := h
  refine y_is C 21 (by decide) g3 dG_newNode_49 (fun r4 er4 => ?_)
  have h := h r4 er4
  refine x_aload_n C dG_newNode_50 rfl 0 rfl ?_
  refine gf_5_1 C (List.mem_cons_of_mem _ wm141) dG_newNode_51 ?_
  refine x_aload_n C dG_newNode_54 rfl 0 rfl ?_
  refine gf_5_7 C (List.mem_cons_of_mem _ wm153) dG_newNode_55 ?_
  refine x_iload_n C dG_newNode_58 rfl 2 rfl ?_
  obtain ⟨g5, h⟩ := h
  refine y_is C 22 (by decide) g5 dG_newNode_59 (fun r6 er6 => ?_)
  have h := h r6 er6
  refine x_aload_n C dG_newNode_60 rfl 0 rfl ?_
  refine gf_5_2 C (List.mem_cons_of_mem _ wm143) dG_newNode_61 ?_
  refine x_aload_n C dG_newNode_64 rfl 0 rfl ?_
  refine gf_5_7 C (List.mem_cons_of_mem _ wm153) dG_newNode_65 ?_
  refine x_iload_n C dG_newNode_68 rfl 3 rfl ?_
  obtain ⟨g7, h⟩ := h
  refine y_is C 23 (by decide) g7 dG_newNode_69 (fun r8 er8 => ?_)
  have h := h r8 er8
  refine x_aload_n C dG_newNode_70 rfl 0 rfl ?_
  refine gf_5_3 C (List.mem_cons_of_mem _ wm145) dG_newNode_71 ?_
  refine x_aload_n C dG_newNode_74 rfl 0 rfl ?_
  refine gf_5_7 C (List.mem_cons_of_mem _ wm153) dG_newNode_75 ?_
  refine x_iconst (v := 0) C dG_newNode_78 (by decide) ?_
  obtain ⟨g9, h⟩ := h
  refine y_is C 24 (by decide) g9 dG_newNode_79 (fun r10 er10 => ?_)
  have h := h r10 er10
  refine x_aload_n C dG_newNode_80 rfl 0 rfl ?_
  refine gf_5_4 C (List.mem_cons_of_mem _ wm147) dG_newNode_81 ?_
  refine x_aload_n C dG_newNode_84 rfl 0 rfl ?_
  refine gf_5_7 C (List.mem_cons_of_mem _ wm153) dG_newNode_85 ?_
  refine x_iconst (v := 0) C dG_newNode_88 (by decide) ?_
  obtain ⟨g11, h⟩ := h
  refine y_is C 25 (by decide) g11 dG_newNode_89 (fun r12 er12 => ?_)
  have h := h r12 er12
  refine x_aload_n C dG_newNode_90 rfl 0 rfl ?_
  refine gf_5_5 C (List.mem_cons_of_mem _ wm149) dG_newNode_91 ?_
  refine x_aload_n C dG_newNode_94 rfl 0 rfl ?_
  refine gf_5_7 C (List.mem_cons_of_mem _ wm153) dG_newNode_95 ?_
  refine x_iconst (v := 0) C dG_newNode_98 (by decide) ?_
  obtain ⟨g13, h⟩ := h
  refine y_is C 26 (by decide) g13 dG_newNode_99 (fun r14 er14 => ?_)
  have h := h r14 er14
  refine x_aload_n C dG_newNode_100 rfl 0 rfl ?_
  refine gf_5_6 C (List.mem_cons_of_mem _ wm151) dG_newNode_101 ?_
  refine x_aload_n C dG_newNode_104 rfl 0 rfl ?_
  refine gf_5_7 C (List.mem_cons_of_mem _ wm153) dG_newNode_105 ?_
  refine x_iconst (v := 0) C dG_newNode_108 (by decide) ?_
  obtain ⟨g15, h⟩ := h
  refine y_is C 27 (by decide) g15 dG_newNode_109 (fun r16 er16 => ?_)
  have h := h r16 er16
  refine x_aload_n C dG_newNode_110 rfl 0 rfl ?_
  refine x_dup C dG_newNode_111 rfl ?_
  refine gf_5_7 C (List.mem_cons_of_mem _ wm153) dG_newNode_112 ?_
  refine x_iconst (v := 1) C dG_newNode_115 (by decide) ?_
  refine x_iadd C dG_newNode_116 ?_
  refine pf_5_7 C (List.mem_cons_of_mem _ wm153) dG_newNode_117 (fun r17 er17 => ?_)
  have h := h r17 er17
  refine x_aload_n C dG_newNode_120 rfl 0 rfl ?_
  refine gf_5_7 C (List.mem_cons_of_mem _ wm153) dG_newNode_121 ?_
  refine x_iconst (v := 1) C dG_newNode_124 (by decide) ?_
  refine x_isub C dG_newNode_125 ?_
  refine x_widen (k1 := mc) (n1 := ms) (by omega) (by omega) ?_
  exact x_iret C hA hlocks hr ⟨a, r17, rfl, h⟩ dG_newNode_126
def qG_newNode (K : Int32 → L_ → S_ → Prop) (a : L_) (r : S_) (kc0 : Nat) (ks0 : Nat) (p0 : Int32) (p1 : Int32) (p2 : Int32) : Prop :=
  (((fi r 11) < 4096) → (((fi r 11) < (Int32.ofNat (ln a 21))) → qG_newNode_J40 K a r kc0 ks0 p0 p1 p2) ∧ ((¬ (fi r 11) < (Int32.ofNat (ln a 21))) → False)) ∧ ((¬ (fi r 11) < 4096) → zb 1 ∧ ∀ r18 : S_, r18 = sF r 15 1 → K 0 a r18)
set_option maxRecDepth 100000 in
set_option maxHeartbeats 4000000 in
theorem cG_newNode {a : L_} {r : S_} {kc0 : Nat} {ks0 : Nat} {K : Int32 → L_ → S_ → Prop} (p0 : Int32) (p1 : Int32) (p2 : Int32) (h : qG_newNode K a r kc0 ks0 p0 p1 p2) : vx_Mi l yG_newNode (Cond.code yG_newNode prog_4_method_3_code 4 (some .int) :: wAll) { frames := 0, cells := kc0, slots := ks0, locals := 0 } D vwCl (tysG G) nwAll (wo G a r) [.ref (ob G 5), .int p0, .int p1, .int p2] kc0 ks0 (fun v w => ∃ a1 r1, w = wo G a1 r1 ∧ K v a1 r1) := by
  unfold qG_newNode at h
  refine x_meti (cc := prog_4_method_3_code) (maxL := 4) (ret := (some .int)) (lv0 := [(0, .ref (ob G 5)), (1, .int p0), (2, .int p1), (3, .int p2)]) (by decide) rfl (Nat.le_of_ble_eq_true rfl) rfl ?_
  intro p e s m args below meth c A C hA hlocks hr
  have hu : 0 + kc0 ≤ kc0 := by omega
  have hv : 0 + ks0 ≤ ks0 := by omega
  refine x_aload_n C dG_newNode_0 rfl 0 rfl ?_
  refine gf_5_7 C (List.mem_cons_of_mem _ wm153) dG_newNode_1 ?_
  refine x_sipush (v := 4096) C dG_newNode_4 (by decide) ?_
  refine x_icmp_lt (tgt := 17) C dG_newNode_7 (by decide) (fun g1 => ?_) (fun g1 => ?_)
  · have h := h.1 g1
    refine x_aload_n C dG_newNode_17 rfl 0 rfl ?_
    refine gf_5_7 C (List.mem_cons_of_mem _ wm153) dG_newNode_18 ?_
    refine x_aload_n C dG_newNode_21 rfl 0 rfl ?_
    refine gf_5_0 C (List.mem_cons_of_mem _ wm139) dG_newNode_22 ?_
    refine y_alen C 21 (by decide) dG_newNode_25 ?_
    refine x_icmp_lt (tgt := 40) C dG_newNode_26 (by decide) (fun g2 => ?_) (fun g2 => ?_)
    · have h := h.1 g2
      refine x_sub [0, 1, 2, 3] rfl ?_
      exact tG_newNode_J40 C hA hlocks hr a r kc0 ks0 p0 p1 p2 _ _ hu hv h
    · have h := h.2 g2
      refine x_aload_n C dG_newNode_29 rfl 0 rfl ?_
      refine x_iconst (v := 2) C dG_newNode_30 (by decide) ?_
      refine x_aload_n C dG_newNode_31 rfl 0 rfl ?_
      refine gf_5_0 C (List.mem_cons_of_mem _ wm139) dG_newNode_32 ?_
      refine y_alen C 21 (by decide) dG_newNode_35 ?_
      refine x_imul C dG_newNode_36 ?_
      exact h.elim
  · have h := h.2 g1
    refine x_aload_n C dG_newNode_10 rfl 0 rfl ?_
    refine x_iconst (v := 1) C dG_newNode_11 (by decide) ?_
    obtain ⟨g19, h⟩ := h
    refine pf_5_15 C (List.mem_cons_of_mem _ wm165) g19 dG_newNode_12 (fun r18 er18 => ?_)
    have h := h r18 er18
    refine x_iconst (v := 0) C dG_newNode_15 (by decide) ?_
    refine x_widen (k1 := kc0) (n1 := ks0) (by omega) (by omega) ?_
    exact x_iret C hA hlocks hr ⟨a, r18, rfl, h⟩ dG_newNode_16
set_option maxRecDepth 100000 in
set_option maxHeartbeats 4000000 in
theorem kG_newNode {p : Program} {l : Launch} {e : Env} {R : Room} {s : State} {m : MethodId} {args : Array Value} {below : List Frame} {meth : Method} {c : Code} {cells slots : Nat} {Q : State → Prop} {A : Nat → Prop} {D : va_G} {nL pc : Nat} {cc : ByteArray} {cw : Cond} {own : String} {lv : List (Nat × Value)} {st : List Value} {G : G_} {a : L_} {r : S_} {kc : Nat} {ks : Nat} {K : Int32 → L_ → S_ → Prop} {p0 : Int32} {p1 : Int32} {p2 : Int32} (C : vx_C p s m args c cc nL (cw :: wAll) own D vwCl (tysG G) nwAll A) {i : Nat} (hl : Cond.methodLink own i yG_newNode ∈ wAll) (hR : 0 + 1 ≤ R.frames ∧ 8 + (4 + 11) + 0 ≤ R.locals) (hst : (st.map fun v => v.category).sum ≤ 8) (hd : decode cc pc = .ok (.invokevirtual i, 3)) (hcs : cells + kc ≤ R.cells ∧ slots + ks ≤ R.slots) (h : qG_newNode K a r kc ks p0 p1 p2) (k : ∀ (v : Int32) (a1 : L_) (r1 : S_), K v a1 r1 → vx_V p l e R s m args below meth c A D vwCl nL (cells + kc) (slots + ks) Q (wo G a1 r1) (pc + 3) lv (.int v :: st)) : vx_V p l e R s m args below meth c A D vwCl nL cells slots Q (wo G a r) pc lv (.int p2 :: .int p1 :: .int p0 :: .ref (ob G 5) :: st) := by
  refine x_callVi C (CC := "ClassInference$Graph") (ci := 5) (q0 := 5) (fs := fl5 G a r) (As := [.int p0, .int p1, .int p2]) rfl rfl (cG_newNode p0 p1 p2 h) (cwV (C := "ClassInference$Graph") 3 C.1.2.2.2.2 (goodV hl wm440 wm441 wm7 wm442) rfl rfl rfl (by decide +kernel) hR) rfl hst hd hcs (fun v w hw => ?_)
  obtain ⟨a1, r1, rfl, h⟩ := hw
  exact k v a1 r1 h
def qG_copyOf_J92 (KB11 : L_ → S_ → Nat → Nat → Int32 → Int32 → Prop) (KX98 : L_ → S_ → Nat → Nat → Int32 → Prop) (a : L_) (r : S_) (kc : Nat) (ks : Nat) (v1 : Int32) (v2 : Int32) : Prop :=
  KB11 a r kc ks v1 (v2 + 1)
set_option maxRecDepth 100000 in
set_option maxHeartbeats 4000000 in
theorem tG_copyOf_J92 (C : vx_C p s m args c prog_4_method_16_code 5 (Cond.code yG_copyOf prog_4_method_16_code 5 (some .int) :: wAll) "ClassInference$Graph" D vwCl (tysG G) nwAll A) {KB11 : L_ → S_ → Nat → Nat → Int32 → Int32 → Prop} {KX98 : L_ → S_ → Nat → Nat → Int32 → Prop} (kB11 : ∀ (a : L_) (r : S_) (kc : Nat) (ks : Nat) (v1 : Int32) (v2 : Int32) (u v : Nat) (hu : u + kc ≤ mc) (hv : v + ks ≤ ms), KB11 a r kc ks v1 v2 → vx_V p l e { frames := 2, cells := mc, slots := ms, locals := 46 } s m args below meth c A D vwCl 5 u v Q (wo G a r) 11 [(0, .ref (ob G 5)), (1, .int v1), (2, .int v2)] []) (kX98 : ∀ (a : L_) (r : S_) (kc : Nat) (ks : Nat) (v1 : Int32) (u v : Nat) (hu : u + kc ≤ mc) (hv : v + ks ≤ ms), KX98 a r kc ks v1 → vx_V p l e { frames := 2, cells := mc, slots := ms, locals := 46 } s m args below meth c A D vwCl 5 u v Q (wo G a r) 98 [(0, .ref (ob G 5)), (1, .int v1)] []) (a : L_) (r : S_) (kc : Nat) (ks : Nat) (v1 : Int32) (v2 : Int32) (u v : Nat) (hu : u + kc ≤ mc) (hv : v + ks ≤ ms) (h : qG_copyOf_J92 KB11 KX98 a r kc ks v1 v2) : vx_V p l e { frames := 2, cells := mc, slots := ms, locals := 46 } s m args below meth c A D vwCl 5 u v Q (wo G a r) 92 [(0, .ref (ob G 5)), (1, .int v1), (2, .int v2)] [] := by
  unfold qG_copyOf_J92 at h
  refine x_iinc (j := 2) (v := v2 + 1) C [(2, .int (v2 + 1)), (0, .ref (ob G 5)), (1, .int v1)] dG_copyOf_92 rfl rfl (by decide) rfl ?_
  refine x_goto (tgt := 11) C dG_copyOf_95 (by decide) ?_
  refine x_sub [1, 2, 0] rfl ?_
  exact kB11 a r kc ks v1 (v2 + 1) _ _ hu hv h
def qG_copyOf_L11 (KX98 : L_ → S_ → Nat → Nat → Int32 → Prop) : Nat → L_ → S_ → Nat → Nat → Int32 → Int32 → Prop
  | 0, _, _, _, _, _, _ => False
  | n + 1, a, r, kc, ks, v1, v2 => (((fi r 12) ≤ v2) → KX98 a r kc ks v1) ∧ ((¬ (fi r 12) ≤ v2) → vp_in v2 (ln a 30) ∧ vp_in (ar r 30 v2.toNatClampNeg) (ln a 26) ∧ ((¬ (ar r 26 (ar r 30 v2.toNatClampNeg).toNatClampNeg) = 1) → qG_copyOf_J92 (qG_copyOf_L11 KX98 n) KX98 a r kc ks v1 v2) ∧ (((ar r 26 (ar r 30 v2.toNatClampNeg).toNatClampNeg) = 1) → vp_in (ar r 30 v2.toNatClampNeg) (ln a 21) ∧ vp_in (ar r 30 v2.toNatClampNeg) (ln a 22) ∧ qG_valueOf a (fun z9 r10 => vp_in (ar r 30 v2.toNatClampNeg) (ln a 23) ∧ qG_valueOf a (fun z12 r13 => ∃ k17 s19 k18 s20 : Nat, k17 + k18 = kc ∧ s19 + s20 = ks ∧ qG_newNode (fun z14 a16 r15 => vp_in (ar r 30 v2.toNatClampNeg) (ln a16 29) ∧ ∀ r22 : S_, r22 = sA r15 29 (upd (ar r15 29) (ar r 30 v2.toNatClampNeg).toNatClampNeg z14) → vp_in z14 (ln a16 24) ∧ vp_in (ar r 30 v2.toNatClampNeg) (ln a16 25) ∧ vp_in z14 (ln a16 24) ∧ ∀ r26 : S_, r26 = sA r22 24 (upd (ar r22 24) z14.toNatClampNeg ((ar r22 24 z14.toNatClampNeg) ||| (ar r22 25 (ar r 30 v2.toNatClampNeg).toNatClampNeg))) → qG_copyOf_J92 (qG_copyOf_L11 KX98 n) KX98 a16 r26 k18 s20 v1 v2) a r13 k17 s19 (ar r 21 (ar r 30 v2.toNatClampNeg).toNatClampNeg) z9 z12) r10 (ar r10 23 (ar r 30 v2.toNatClampNeg).toNatClampNeg)) r (ar r 22 (ar r 30 v2.toNatClampNeg).toNatClampNeg)))
set_option maxRecDepth 100000 in
set_option maxHeartbeats 4000000 in
theorem tG_copyOf_L11 (C : vx_C p s m args c prog_4_method_16_code 5 (Cond.code yG_copyOf prog_4_method_16_code 5 (some .int) :: wAll) "ClassInference$Graph" D vwCl (tysG G) nwAll A) {KX98 : L_ → S_ → Nat → Nat → Int32 → Prop} (kX98 : ∀ (a : L_) (r : S_) (kc : Nat) (ks : Nat) (v1 : Int32) (u v : Nat) (hu : u + kc ≤ mc) (hv : v + ks ≤ ms), KX98 a r kc ks v1 → vx_V p l e { frames := 2, cells := mc, slots := ms, locals := 46 } s m args below meth c A D vwCl 5 u v Q (wo G a r) 98 [(0, .ref (ob G 5)), (1, .int v1)] []) : ∀ (n : Nat) (a : L_) (r : S_) (kc : Nat) (ks : Nat) (v1 : Int32) (v2 : Int32) (u v : Nat) (hu : u + kc ≤ mc) (hv : v + ks ≤ ms), qG_copyOf_L11 KX98 n a r kc ks v1 v2 → vx_V p l e { frames := 2, cells := mc, slots := ms, locals := 46 } s m args below meth c A D vwCl 5 u v Q (wo G a r) 11 [(0, .ref (ob G 5)), (1, .int v1), (2, .int v2)] [] := by
  intro n
  induction n with
  | zero =>
    intro a r kc ks v1 v2 u v hu hv h
    exact (by rw [qG_copyOf_L11] at h; exact h : False).elim
  | succ n kB11 =>
    intro a r kc ks v1 v2 u v hu hv h
    rw [qG_copyOf_L11] at h
    refine x_iload_n C dG_copyOf_11 rfl 2 rfl ?_
    refine x_aload_n C dG_copyOf_12 rfl 0 rfl ?_
    refine gf_5_11 C (List.mem_cons_of_mem _ wm161) dG_copyOf_13 ?_
    refine x_icmp_ge (tgt := 98) C dG_copyOf_16 (by decide) (fun g3 => ?_) (fun g3 => ?_)
    · have h := h.1 g3
      refine x_sub [0, 1] rfl ?_
      exact kX98 a r kc ks v1 _ _ hu hv h
    · have h := h.2 g3
      refine x_aload_n C dG_copyOf_19 rfl 0 rfl ?_
      refine gf_5_10 C (List.mem_cons_of_mem _ wm158) dG_copyOf_20 ?_
      refine x_iload_n C dG_copyOf_23 rfl 2 rfl ?_
      obtain ⟨g4, h⟩ := h
      refine y_ia C 30 (by decide) g4 dG_copyOf_24 ?_
      refine x_istore_n C [(3, .int (ar r 30 v2.toNatClampNeg)), (0, .ref (ob G 5)), (1, .int v1), (2, .int v2)] dG_copyOf_25 rfl (by decide) rfl ?_
      refine x_aload_n C dG_copyOf_26 rfl 1 rfl ?_
      refine gf_5_5 C (List.mem_cons_of_mem _ wm149) dG_copyOf_27 ?_
      refine x_iload_n C dG_copyOf_30 rfl 0 rfl ?_
      obtain ⟨g5, h⟩ := h
      refine y_ia C 26 (by decide) g5 dG_copyOf_31 ?_
      refine x_iconst (v := 1) C dG_copyOf_32 (by decide) ?_
      refine x_icmp_ne (tgt := 92) C dG_copyOf_33 (by decide) (fun g6 => ?_) (fun g6 => ?_)
      · have h := h.1 g6
        refine x_sub [1, 2, 3] rfl ?_
        exact tG_copyOf_J92 C kB11 kX98 a r kc ks v1 v2 _ _ hu hv h
      · have h := h.2 g6
        refine x_aload_n C dG_copyOf_36 rfl 1 rfl ?_
        refine x_aload_n C dG_copyOf_37 rfl 1 rfl ?_
        refine gf_5_0 C (List.mem_cons_of_mem _ wm139) dG_copyOf_38 ?_
        refine x_iload_n C dG_copyOf_41 rfl 0 rfl ?_
        obtain ⟨g7, h⟩ := h
        refine y_ia C 21 (by decide) g7 dG_copyOf_42 ?_
        refine x_aload_n C dG_copyOf_43 rfl 1 rfl ?_
        refine x_aload_n C dG_copyOf_44 rfl 1 rfl ?_
        refine gf_5_1 C (List.mem_cons_of_mem _ wm141) dG_copyOf_45 ?_
        refine x_iload_n C dG_copyOf_48 rfl 0 rfl ?_
        obtain ⟨g8, h⟩ := h
        refine y_ia C 22 (by decide) g8 dG_copyOf_49 ?_
        refine kG_valueOf C wm594 ⟨Nat.le_of_ble_eq_true rfl, Nat.le_of_ble_eq_true rfl⟩ (Nat.le_of_ble_eq_true rfl) dG_copyOf_50 ⟨Nat.le_trans (Nat.le_add_right _ _) hu, Nat.le_trans (Nat.le_add_right _ _) hv⟩ h (fun z9 r10 h => ?_)
        refine x_aload_n C dG_copyOf_53 rfl 1 rfl ?_
        refine x_aload_n C dG_copyOf_54 rfl 1 rfl ?_
        refine gf_5_2 C (List.mem_cons_of_mem _ wm143) dG_copyOf_55 ?_
        refine x_iload_n C dG_copyOf_58 rfl 0 rfl ?_
        obtain ⟨g11, h⟩ := h
        refine y_ia C 23 (by decide) g11 dG_copyOf_59 ?_
        refine kG_valueOf C wm594 ⟨Nat.le_of_ble_eq_true rfl, Nat.le_of_ble_eq_true rfl⟩ (Nat.le_of_ble_eq_true rfl) dG_copyOf_60 ⟨Nat.le_trans (Nat.le_add_right _ _) hu, Nat.le_trans (Nat.le_add_right _ _) hv⟩ h (fun z12 r13 h => ?_)
        obtain ⟨k17, s19, k18, s20, e27, e28, h⟩ := h
        have hu9 : u + k17 ≤ mc := by omega
        have hv9 : v + s19 ≤ ms := by omega
        refine kG_newNode C wm598 ⟨Nat.le_of_ble_eq_true rfl, Nat.le_of_ble_eq_true rfl⟩ (Nat.le_of_ble_eq_true rfl) dG_copyOf_63 ⟨hu9, hv9⟩ h (fun z14 a16 r15 h => ?_)
        have hu : (u + k17) + k18 ≤ mc := by omega
        have hv : (v + s19) + s20 ≤ ms := by omega
        refine x_istore C [(4, .int z14), (3, .int (ar r 30 v2.toNatClampNeg)), (0, .ref (ob G 5)), (1, .int v1), (2, .int v2)] dG_copyOf_66 (by decide) rfl ?_
        refine x_aload_n C dG_copyOf_68 rfl 2 rfl ?_
        refine gf_5_9 C (List.mem_cons_of_mem _ wm156) dG_copyOf_69 ?_
        refine x_iload_n C dG_copyOf_72 rfl 1 rfl ?_
        refine x_iload C dG_copyOf_73 0 rfl ?_
        obtain ⟨g21, h⟩ := h
        refine y_is C 29 (by decide) g21 dG_copyOf_75 (fun r22 er22 => ?_)
        have h := h r22 er22
        refine x_aload_n C dG_copyOf_76 rfl 2 rfl ?_
        refine gf_5_3 C (List.mem_cons_of_mem _ wm145) dG_copyOf_77 ?_
        refine x_iload C dG_copyOf_80 0 rfl ?_
        refine x_dup2 C dG_copyOf_82 rfl rfl ?_
        obtain ⟨g23, h⟩ := h
        refine y_ia C 24 (by decide) g23 dG_copyOf_83 ?_
        refine x_aload_n C dG_copyOf_84 rfl 2 rfl ?_
        refine gf_5_4 C (List.mem_cons_of_mem _ wm147) dG_copyOf_85 ?_
        refine x_iload_n C dG_copyOf_88 rfl 1 rfl ?_
        obtain ⟨g24, h⟩ := h
        refine y_ia C 25 (by decide) g24 dG_copyOf_89 ?_
        refine x_ior C dG_copyOf_90 ?_
        obtain ⟨g25, h⟩ := h
        refine y_is C 24 (by decide) g25 dG_copyOf_91 (fun r26 er26 => ?_)
        have h := h r26 er26
        refine x_sub [2, 3, 4] rfl ?_
        exact tG_copyOf_J92 C kB11 kX98 a16 r26 k18 s20 v1 v2 _ _ hu hv h
def qG_copyOf (K : Int32 → L_ → S_ → Prop) (a : L_) (r : S_) (kc0 : Nat) (ks0 : Nat) (p0 : Int32) : Prop :=
  qG_startWalk a (fun r1 => qG_walk a (fun r2 => ∃ n31 : Nat, qG_copyOf_L11 (fun a r kc ks v1 => qG_valueOf a (fun z29 r30 => K z29 a r30) r v1) n31 a r2 kc0 ks0 p0 0) r1 p0) r
set_option maxRecDepth 100000 in
set_option maxHeartbeats 4000000 in
theorem cG_copyOf {a : L_} {r : S_} {kc0 : Nat} {ks0 : Nat} {K : Int32 → L_ → S_ → Prop} (p0 : Int32) (h : qG_copyOf K a r kc0 ks0 p0) : vx_Mi l yG_copyOf (Cond.code yG_copyOf prog_4_method_16_code 5 (some .int) :: wAll) { frames := 2, cells := kc0, slots := ks0, locals := 46 } D vwCl (tysG G) nwAll (wo G a r) [.ref (ob G 5), .int p0] kc0 ks0 (fun v w => ∃ a1 r1, w = wo G a1 r1 ∧ K v a1 r1) := by
  unfold qG_copyOf at h
  refine x_meti (cc := prog_4_method_16_code) (maxL := 5) (ret := (some .int)) (lv0 := [(0, .ref (ob G 5)), (1, .int p0)]) (by decide) rfl (Nat.le_of_ble_eq_true rfl) rfl ?_
  intro p e s m args below meth c A C hA hlocks hr
  have hu : 0 + kc0 ≤ kc0 := by omega
  have hv : 0 + ks0 ≤ ks0 := by omega
  refine x_aload_n C dG_copyOf_0 rfl 0 rfl ?_
  refine kG_startWalk C wm592 ⟨Nat.le_of_ble_eq_true rfl, Nat.le_of_ble_eq_true rfl⟩ (Nat.le_of_ble_eq_true rfl) dG_copyOf_1 ⟨Nat.le_trans (Nat.le_add_right _ _) hu, Nat.le_trans (Nat.le_add_right _ _) hv⟩ h (fun r1 h => ?_)
  refine x_aload_n C dG_copyOf_4 rfl 0 rfl ?_
  refine x_iload_n C dG_copyOf_5 rfl 1 rfl ?_
  refine kG_walk C wm593 ⟨Nat.le_of_ble_eq_true rfl, Nat.le_of_ble_eq_true rfl⟩ (Nat.le_of_ble_eq_true rfl) dG_copyOf_6 ⟨Nat.le_trans (Nat.le_add_right _ _) hu, Nat.le_trans (Nat.le_add_right _ _) hv⟩ h (fun r2 h => ?_)
  refine x_iconst (v := 0) C dG_copyOf_9 (by decide) ?_
  refine x_istore_n C [(2, .int 0), (0, .ref (ob G 5)), (1, .int p0)] dG_copyOf_10 rfl (by decide) rfl ?_
  obtain ⟨n31, h⟩ := h
  refine x_sub [1, 2, 0] rfl ?_
  refine tG_copyOf_L11 C (fun a r kc ks v1 u v hu hv h => ?_) n31 a r2 kc0 ks0 p0 0 _ _ hu hv h
  · refine x_aload_n C dG_copyOf_98 rfl 0 rfl ?_
    refine x_iload_n C dG_copyOf_99 rfl 1 rfl ?_
    refine kG_valueOf C wm594 ⟨Nat.le_of_ble_eq_true rfl, Nat.le_of_ble_eq_true rfl⟩ (Nat.le_of_ble_eq_true rfl) dG_copyOf_100 ⟨Nat.le_trans (Nat.le_add_right _ _) hu, Nat.le_trans (Nat.le_add_right _ _) hv⟩ h (fun z29 r30 h => ?_)
    refine x_widen (k1 := kc0) (n1 := ks0) (by omega) (by omega) ?_
    exact x_iret C hA hlocks hr ⟨a, r30, rfl, h⟩ dG_copyOf_103
set_option maxRecDepth 100000 in
set_option maxHeartbeats 4000000 in
theorem kG_copyOf {p : Program} {l : Launch} {e : Env} {R : Room} {s : State} {m : MethodId} {args : Array Value} {below : List Frame} {meth : Method} {c : Code} {cells slots : Nat} {Q : State → Prop} {A : Nat → Prop} {D : va_G} {nL pc : Nat} {cc : ByteArray} {cw : Cond} {own : String} {lv : List (Nat × Value)} {st : List Value} {G : G_} {a : L_} {r : S_} {kc : Nat} {ks : Nat} {K : Int32 → L_ → S_ → Prop} {p0 : Int32} (C : vx_C p s m args c cc nL (cw :: wAll) own D vwCl (tysG G) nwAll A) {i : Nat} (hl : Cond.methodLink own i yG_copyOf ∈ wAll) (hR : 2 + 1 ≤ R.frames ∧ 8 + (5 + 11) + 46 ≤ R.locals) (hst : (st.map fun v => v.category).sum ≤ 8) (hd : decode cc pc = .ok (.invokevirtual i, 3)) (hcs : cells + kc ≤ R.cells ∧ slots + ks ≤ R.slots) (h : qG_copyOf K a r kc ks p0) (k : ∀ (v : Int32) (a1 : L_) (r1 : S_), K v a1 r1 → vx_V p l e R s m args below meth c A D vwCl nL (cells + kc) (slots + ks) Q (wo G a1 r1) (pc + 3) lv (.int v :: st)) : vx_V p l e R s m args below meth c A D vwCl nL cells slots Q (wo G a r) pc lv (.int p0 :: .ref (ob G 5) :: st) := by
  refine x_callVi C (CC := "ClassInference$Graph") (ci := 5) (q0 := 5) (fs := fl5 G a r) (As := [.int p0]) rfl rfl (cG_copyOf p0 h) (cwV (C := "ClassInference$Graph") 1 C.1.2.2.2.2 (goodV hl wm589 wm590 wm7 wm591) rfl rfl rfl (by decide +kernel) hR) rfl hst hd hcs (fun v w hw => ?_)
  obtain ⟨a1, r1, rfl, h⟩ := hw
  exact k v a1 r1 h
def qY_typeOfName_L7 (KX24 : L_ → S_ → Nat → Nat → Int32 → Prop) (KX76 : L_ → S_ → Nat → Nat → Prop) : Nat → L_ → S_ → Nat → Nat → Int32 → Int32 → Prop
  | 0, _, _, _, _, _, _ => False
  | n + 1, a, r, kc, ks, v1, v2 => ((v2 < 0) → KX76 a r kc ks) ∧ ((¬ v2 < 0) → vp_in v2 (ln a 17) ∧ (((ar r 17 v2.toNatClampNeg) = v1) → KX24 a r kc ks v2) ∧ ((¬ (ar r 17 v2.toNatClampNeg) = v1) → (qY_typeOfName_L7 KX24 KX76 n) a r kc ks v1 (v2 + (-1))))
set_option maxRecDepth 100000 in
set_option maxHeartbeats 4000000 in
theorem tY_typeOfName_L7 (C : vx_C p s m args c prog_7_method_4_code 3 (Cond.code yY_typeOfName prog_7_method_4_code 3 (some .int) :: wAll) "ClassInference$Typer" D vwCl (tysG G) nwAll A) {KX24 : L_ → S_ → Nat → Nat → Int32 → Prop} {KX76 : L_ → S_ → Nat → Nat → Prop} (kX24 : ∀ (a : L_) (r : S_) (kc : Nat) (ks : Nat) (v2 : Int32) (u v : Nat) (hu : u + kc ≤ mc) (hv : v + ks ≤ ms), KX24 a r kc ks v2 → vx_V p l e { frames := 3, cells := mc, slots := ms, locals := 70 } s m args below meth c A D vwCl 3 u v Q (wo G a r) 24 [(0, .ref (ob G 4)), (2, .int v2)] []) (kX76 : ∀ (a : L_) (r : S_) (kc : Nat) (ks : Nat) (u v : Nat) (hu : u + kc ≤ mc) (hv : v + ks ≤ ms), KX76 a r kc ks → vx_V p l e { frames := 3, cells := mc, slots := ms, locals := 70 } s m args below meth c A D vwCl 3 u v Q (wo G a r) 76 [(0, .ref (ob G 4))] []) : ∀ (n : Nat) (a : L_) (r : S_) (kc : Nat) (ks : Nat) (v1 : Int32) (v2 : Int32) (u v : Nat) (hu : u + kc ≤ mc) (hv : v + ks ≤ ms), qY_typeOfName_L7 KX24 KX76 n a r kc ks v1 v2 → vx_V p l e { frames := 3, cells := mc, slots := ms, locals := 70 } s m args below meth c A D vwCl 3 u v Q (wo G a r) 7 [(0, .ref (ob G 4)), (1, .int v1), (2, .int v2)] [] := by
  intro n
  induction n with
  | zero =>
    intro a r kc ks v1 v2 u v hu hv h
    exact (by rw [qY_typeOfName_L7] at h; exact h : False).elim
  | succ n kB7 =>
    intro a r kc ks v1 v2 u v hu hv h
    rw [qY_typeOfName_L7] at h
    refine x_iload_n C dY_typeOfName_7 rfl 2 rfl ?_
    refine x_if_lt (tgt := 76) C dY_typeOfName_8 (by decide) (fun g1 => ?_) (fun g1 => ?_)
    · have h := h.1 g1
      refine x_sub [0] rfl ?_
      exact kX76 a r kc ks _ _ hu hv h
    · have h := h.2 g1
      refine x_aload_n C dY_typeOfName_11 rfl 0 rfl ?_
      refine gf_4_4 C (List.mem_cons_of_mem _ wm204) dY_typeOfName_12 ?_
      refine x_iload_n C dY_typeOfName_15 rfl 2 rfl ?_
      obtain ⟨g2, h⟩ := h
      refine y_ia C 17 (by decide) g2 dY_typeOfName_16 ?_
      refine x_iload_n C dY_typeOfName_17 rfl 1 rfl ?_
      refine x_icmp_eq (tgt := 24) C dY_typeOfName_18 (by decide) (fun g3 => ?_) (fun g3 => ?_)
      · have h := h.1 g3
        refine x_sub [0, 2] rfl ?_
        exact kX24 a r kc ks v2 _ _ hu hv h
      · have h := h.2 g3
        refine x_goto (tgt := 70) C dY_typeOfName_21 (by decide) ?_
        refine x_iinc (j := 2) (v := v2 + (-1)) C [(2, .int (v2 + (-1))), (0, .ref (ob G 4)), (1, .int v1)] dY_typeOfName_70 rfl rfl (by decide) rfl ?_
        refine x_goto (tgt := 7) C dY_typeOfName_73 (by decide) ?_
        refine x_sub [1, 2, 0] rfl ?_
        exact kB7 a r kc ks v1 (v2 + (-1)) _ _ hu hv h
def qY_typeOfName (K : Int32 → L_ → S_ → Prop) (a : L_) (r : S_) (kc0 : Nat) (ks0 : Nat) (p0 : Int32) : Prop :=
  ∃ n30 : Nat, qY_typeOfName_L7  (fun a r kc ks v2 => vp_in v2 (ln a 19) ∧ ((¬ (ar r 19 v2.toNatClampNeg) = (-1)) → vp_in v2 (ln a 19) ∧ ∀ r7 : S_, r7 = sF r 8 ((fi r 8) + (ar r 19 v2.toNatClampNeg)) → vp_in v2 (ln a 18) ∧ ∃ k12 s14 k13 s15 : Nat, k12 + k13 = kc ∧ s14 + s15 = ks ∧ qG_copyOf (fun z9 a11 r10 => K z9 a11 r10) a r7 k12 s14 (ar r7 18 v2.toNatClampNeg)) ∧ (((ar r 19 v2.toNatClampNeg) = (-1)) → vp_in v2 (ln a 18) ∧ K (ar r 18 v2.toNatClampNeg) a r)) (fun a r kc ks => zb 1 ∧ ∀ r19 : S_, r19 = sF r 15 1 → ∃ k24 s26 k25 s27 : Nat, k24 + k25 = kc ∧ s26 + s27 = ks ∧ qG_newNode (fun z21 a23 r22 => K z21 a23 r22) a r19 k24 s26 (-1) (-1) (-1)) n30 a r kc0 ks0 p0 ((fi r 5) - 1)
set_option maxRecDepth 100000 in
set_option maxHeartbeats 4000000 in
theorem cY_typeOfName {a : L_} {r : S_} {kc0 : Nat} {ks0 : Nat} {K : Int32 → L_ → S_ → Prop} (p0 : Int32) (h : qY_typeOfName K a r kc0 ks0 p0) : vx_Mi l yY_typeOfName (Cond.code yY_typeOfName prog_7_method_4_code 3 (some .int) :: wAll) { frames := 3, cells := kc0, slots := ks0, locals := 70 } D vwCl (tysG G) nwAll (wo G a r) [.ref (ob G 4), .int p0] kc0 ks0 (fun v w => ∃ a1 r1, w = wo G a1 r1 ∧ K v a1 r1) := by
  unfold qY_typeOfName at h
  refine x_meti (cc := prog_7_method_4_code) (maxL := 3) (ret := (some .int)) (lv0 := [(0, .ref (ob G 4)), (1, .int p0)]) (by decide) rfl (Nat.le_of_ble_eq_true rfl) rfl ?_
  intro p e s m args below meth c A C hA hlocks hr
  have hu : 0 + kc0 ≤ kc0 := by omega
  have hv : 0 + ks0 ≤ ks0 := by omega
  refine x_aload_n C dY_typeOfName_0 rfl 0 rfl ?_
  refine gf_4_7 C (List.mem_cons_of_mem _ wm207) dY_typeOfName_1 ?_
  refine x_iconst (v := 1) C dY_typeOfName_4 (by decide) ?_
  refine x_isub C dY_typeOfName_5 ?_
  refine x_istore_n C [(2, .int ((fi r 5) - 1)), (0, .ref (ob G 4)), (1, .int p0)] dY_typeOfName_6 rfl (by decide) rfl ?_
  obtain ⟨n30, h⟩ := h
  refine x_sub [1, 2, 0] rfl ?_
  refine tY_typeOfName_L7 C (fun a r kc ks v2 u v hu hv h => ?_) (fun a r kc ks u v hu hv h => ?_) n30 a r kc0 ks0 p0 ((fi r 5) - 1) _ _ hu hv h
  · refine x_aload_n C dY_typeOfName_24 rfl 0 rfl ?_
    refine gf_4_6 C (List.mem_cons_of_mem _ wm206) dY_typeOfName_25 ?_
    refine x_iload_n C dY_typeOfName_28 rfl 1 rfl ?_
    obtain ⟨g4, h⟩ := h
    refine y_ia C 19 (by decide) g4 dY_typeOfName_29 ?_
    refine x_iconst (v := (-1)) C dY_typeOfName_30 (by decide) ?_
    refine x_icmp_ne (tgt := 41) C dY_typeOfName_31 (by decide) (fun g5 => ?_) (fun g5 => ?_)
    · have h := h.1 g5
      refine x_aload_n C dY_typeOfName_41 rfl 0 rfl ?_
      refine x_dup C dY_typeOfName_42 rfl ?_
      refine gf_4_11 C (List.mem_cons_of_mem _ wm211) dY_typeOfName_43 ?_
      refine x_aload_n C dY_typeOfName_46 rfl 0 rfl ?_
      refine gf_4_6 C (List.mem_cons_of_mem _ wm206) dY_typeOfName_47 ?_
      refine x_iload_n C dY_typeOfName_50 rfl 1 rfl ?_
      obtain ⟨g6, h⟩ := h
      refine y_ia C 19 (by decide) g6 dY_typeOfName_51 ?_
      refine x_iadd C dY_typeOfName_52 ?_
      refine pf_4_11 C (List.mem_cons_of_mem _ wm211) dY_typeOfName_53 (fun r7 er7 => ?_)
      have h := h r7 er7
      refine x_aload_n C dY_typeOfName_56 rfl 0 rfl ?_
      refine gf_4_3 C (List.mem_cons_of_mem _ wm203) dY_typeOfName_57 ?_
      refine x_aload_n C dY_typeOfName_60 rfl 0 rfl ?_
      refine gf_4_5 C (List.mem_cons_of_mem _ wm205) dY_typeOfName_61 ?_
      refine x_iload_n C dY_typeOfName_64 rfl 1 rfl ?_
      obtain ⟨g8, h⟩ := h
      refine y_ia C 18 (by decide) g8 dY_typeOfName_65 ?_
      obtain ⟨k12, s14, k13, s15, e16, e17, h⟩ := h
      have hu9 : u + k12 ≤ kc0 := by omega
      have hv9 : v + s14 ≤ ks0 := by omega
      refine kG_copyOf C wm588 ⟨Nat.le_of_ble_eq_true rfl, Nat.le_of_ble_eq_true rfl⟩ (Nat.le_of_ble_eq_true rfl) dY_typeOfName_66 ⟨hu9, hv9⟩ h (fun z9 a11 r10 h => ?_)
      have hu : (u + k12) + k13 ≤ kc0 := by omega
      have hv : (v + s14) + s15 ≤ ks0 := by omega
      refine x_widen (k1 := kc0) (n1 := ks0) (by omega) (by omega) ?_
      exact x_iret C hA hlocks hr ⟨a11, r10, rfl, h⟩ dY_typeOfName_69
    · have h := h.2 g5
      refine x_aload_n C dY_typeOfName_34 rfl 0 rfl ?_
      refine gf_4_5 C (List.mem_cons_of_mem _ wm205) dY_typeOfName_35 ?_
      refine x_iload_n C dY_typeOfName_38 rfl 1 rfl ?_
      obtain ⟨g18, h⟩ := h
      refine y_ia C 18 (by decide) g18 dY_typeOfName_39 ?_
      refine x_widen (k1 := kc0) (n1 := ks0) (by omega) (by omega) ?_
      exact x_iret C hA hlocks hr ⟨a, r, rfl, h⟩ dY_typeOfName_40
  · refine x_aload_n C dY_typeOfName_76 rfl 0 rfl ?_
    refine gf_4_3 C (List.mem_cons_of_mem _ wm203) dY_typeOfName_77 ?_
    refine x_iconst (v := 1) C dY_typeOfName_80 (by decide) ?_
    obtain ⟨g20, h⟩ := h
    refine pn_5_15 C wn166 g20 dY_typeOfName_81 (fun r19 er19 => ?_)
    have h := h r19 er19
    refine x_aload_n C dY_typeOfName_84 rfl 0 rfl ?_
    refine gf_4_3 C (List.mem_cons_of_mem _ wm203) dY_typeOfName_85 ?_
    refine x_iconst (v := (-1)) C dY_typeOfName_88 (by decide) ?_
    refine x_iconst (v := (-1)) C dY_typeOfName_89 (by decide) ?_
    refine x_iconst (v := (-1)) C dY_typeOfName_90 (by decide) ?_
    obtain ⟨k24, s26, k25, s27, e28, e29, h⟩ := h
    have hu9 : u + k24 ≤ kc0 := by omega
    have hv9 : v + s26 ≤ ks0 := by omega
    refine kG_newNode C wm439 ⟨Nat.le_of_ble_eq_true rfl, Nat.le_of_ble_eq_true rfl⟩ (Nat.le_of_ble_eq_true rfl) dY_typeOfName_91 ⟨hu9, hv9⟩ h (fun z21 a23 r22 h => ?_)
    have hu : (u + k24) + k25 ≤ kc0 := by omega
    have hv : (v + s26) + s27 ≤ ks0 := by omega
    refine x_widen (k1 := kc0) (n1 := ks0) (by omega) (by omega) ?_
    exact x_iret C hA hlocks hr ⟨a23, r22, rfl, h⟩ dY_typeOfName_94
set_option maxRecDepth 100000 in
set_option maxHeartbeats 4000000 in
theorem kY_typeOfName {p : Program} {l : Launch} {e : Env} {R : Room} {s : State} {m : MethodId} {args : Array Value} {below : List Frame} {meth : Method} {c : Code} {cells slots : Nat} {Q : State → Prop} {A : Nat → Prop} {D : va_G} {nL pc : Nat} {cc : ByteArray} {cw : Cond} {own : String} {lv : List (Nat × Value)} {st : List Value} {G : G_} {a : L_} {r : S_} {kc : Nat} {ks : Nat} {K : Int32 → L_ → S_ → Prop} {p0 : Int32} (C : vx_C p s m args c cc nL (cw :: wAll) own D vwCl (tysG G) nwAll A) {i : Nat} (hl : Cond.methodLink own i yY_typeOfName ∈ wAll) (hR : 3 + 1 ≤ R.frames ∧ 8 + (3 + 11) + 70 ≤ R.locals) (hst : (st.map fun v => v.category).sum ≤ 8) (hd : decode cc pc = .ok (.invokevirtual i, 3)) (hcs : cells + kc ≤ R.cells ∧ slots + ks ≤ R.slots) (h : qY_typeOfName K a r kc ks p0) (k : ∀ (v : Int32) (a1 : L_) (r1 : S_), K v a1 r1 → vx_V p l e R s m args below meth c A D vwCl nL (cells + kc) (slots + ks) Q (wo G a1 r1) (pc + 3) lv (.int v :: st)) : vx_V p l e R s m args below meth c A D vwCl nL cells slots Q (wo G a r) pc lv (.int p0 :: .ref (ob G 4) :: st) := by
  refine x_callVi C (CC := "ClassInference$Typer") (ci := 4) (q0 := 4) (fs := fl4 G a r) (As := [.int p0]) rfl rfl (cY_typeOfName p0 h) (cwV (C := "ClassInference$Typer") 1 C.1.2.2.2.2 (goodV hl wm586 wp26 wm6 wm587) rfl rfl rfl (by decide +kernel) hR) rfl hst hd hcs (fun v w hw => ?_)
  obtain ⟨a1, r1, rfl, h⟩ := hw
  exact k v a1 r1 h
end MTH2
