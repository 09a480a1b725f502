abbrev yK_holdsAll : MethodName := { cls := "ClassInference$ClassTable", name := "holdsAll", desc := "(IILClassInference$TypeTable;)Z" }
abbrev yK_holdsAllDown : MethodName := { cls := "ClassInference$ClassTable", name := "holdsAllDown", desc := "(IILClassInference$TypeTable;I)Z" }
abbrev yY_run : MethodName := { cls := "ClassInference$Typer", name := "run", desc := "(I)I" }
abbrev yY_typeOf : MethodName := { cls := "ClassInference$Typer", name := "typeOf", desc := "(I)I" }
abbrev yY_typeOfLambda : MethodName := { cls := "ClassInference$Typer", name := "typeOfLambda", desc := "(II)I" }
abbrev yY_typeOfApply : MethodName := { cls := "ClassInference$Typer", name := "typeOfApply", desc := "(II)I" }
abbrev yY_typeOfLet : MethodName := { cls := "ClassInference$Typer", name := "typeOfLet", desc := "(III)I" }
abbrev yY_typeOfMethod : MethodName := { cls := "ClassInference$Typer", name := "typeOfMethod", desc := "(I)I" }
abbrev yY_freshCopy : MethodName := { cls := "ClassInference$Typer", name := "freshCopy", desc := "(I)I" }
abbrev yY_writeOut : MethodName := { cls := "ClassInference$Typer", name := "writeOut", desc := "(I)I" }
theorem wm424 : (Jvm.Cond.instanceMethod ({ cls := "ClassInference$Typer", name := "run", desc := "(I)I" } : Jvm.MethodName)) ∈ wAll := mw 424 (by decide +kernel) (by decide +kernel)
theorem wm425 : (Jvm.Cond.selects "ClassInference$Typer" ({ cls := "ClassInference$Typer", name := "run", desc := "(I)I" } : Jvm.MethodName) ({ cls := "ClassInference$Typer", name := "run", desc := "(I)I" } : Jvm.MethodName)) ∈ wAll := mw 425 (by decide +kernel) (by decide +kernel)
theorem wm426 : (Jvm.Cond.code ({ cls := "ClassInference$Typer", name := "run", desc := "(I)I" } : Jvm.MethodName) prog_7_method_2_code (2 : Nat) (Option.some Jvm.ClassFile.FieldType.int)) ∈ wAll := mw 426 (by decide +kernel) (by decide +kernel)
theorem wm427 : (Jvm.Cond.methodLink "ClassInference$Typer" (43 : Nat) ({ cls := "ClassInference$Graph", name := "clear", desc := "()V" } : Jvm.MethodName)) ∈ wAll := mw 427 (by decide +kernel) (by decide +kernel)
theorem wm431 : (Jvm.Cond.methodLink "ClassInference$Typer" (60 : Nat) ({ cls := "ClassInference$Typer", name := "typeOf", desc := "(I)I" } : Jvm.MethodName)) ∈ wAll := mw 431 (by decide +kernel) (by decide +kernel)
theorem wm433 : (Jvm.Cond.instanceMethod ({ cls := "ClassInference$Typer", name := "typeOf", desc := "(I)I" } : Jvm.MethodName)) ∈ wAll := mw 433 (by decide +kernel) (by decide +kernel)
theorem wm434 : (Jvm.Cond.code ({ cls := "ClassInference$Typer", name := "typeOf", desc := "(I)I" } : Jvm.MethodName) prog_7_method_3_code (4 : Nat) (Option.some Jvm.ClassFile.FieldType.int)) ∈ wAll := mw 434 (by decide +kernel) (by decide +kernel)
theorem wm435 : (Jvm.Cond.methodLink "ClassInference$Typer" (89 : Nat) ({ cls := "ClassInference$Typer", name := "typeOfLambda", desc := "(II)I" } : Jvm.MethodName)) ∈ wAll := mw 435 (by decide +kernel) (by decide +kernel)
theorem wm437 : (Jvm.Cond.instanceMethod ({ cls := "ClassInference$Typer", name := "typeOfLambda", desc := "(II)I" } : Jvm.MethodName)) ∈ wAll := mw 437 (by decide +kernel) (by decide +kernel)
theorem wm438 : (Jvm.Cond.code ({ cls := "ClassInference$Typer", name := "typeOfLambda", desc := "(II)I" } : Jvm.MethodName) prog_7_method_5_code (5 : Nat) (Option.some Jvm.ClassFile.FieldType.int)) ∈ wAll := mw 438 (by decide +kernel) (by decide +kernel)
theorem wm461 : (Jvm.Cond.methodLink "ClassInference$Typer" (117 : Nat) ({ cls := "ClassInference$Typer", name := "enter", desc := "(III)V" } : Jvm.MethodName)) ∈ wAll := mw 461 (by decide +kernel) (by decide +kernel)
theorem wm465 : (Jvm.Cond.methodLink "ClassInference$Typer" (121 : Nat) ({ cls := "ClassInference$Typer", name := "leave", desc := "()V" } : Jvm.MethodName)) ∈ wAll := mw 465 (by decide +kernel) (by decide +kernel)
theorem wm469 : (Jvm.Cond.methodLink "ClassInference$Typer" (92 : Nat) ({ cls := "ClassInference$Typer", name := "typeOfApply", desc := "(II)I" } : Jvm.MethodName)) ∈ wAll := mw 469 (by decide +kernel) (by decide +kernel)
theorem wm471 : (Jvm.Cond.instanceMethod ({ cls := "ClassInference$Typer", name := "typeOfApply", desc := "(II)I" } : Jvm.MethodName)) ∈ wAll := mw 471 (by decide +kernel) (by decide +kernel)
theorem wm472 : (Jvm.Cond.code ({ cls := "ClassInference$Typer", name := "typeOfApply", desc := "(II)I" } : Jvm.MethodName) prog_7_method_6_code (6 : Nat) (Option.some Jvm.ClassFile.FieldType.int)) ∈ wAll := mw 472 (by decide +kernel) (by decide +kernel)
theorem wm473 : (Jvm.Cond.methodLink "ClassInference$Typer" (124 : Nat) ({ cls := "ClassInference$Graph", name := "unify", desc := "(II)V" } : Jvm.MethodName)) ∈ wAll := mw 473 (by decide +kernel) (by decide +kernel)
theorem wm502 : (Jvm.Cond.methodLink "ClassInference$Typer" (98 : Nat) ({ cls := "ClassInference$Typer", name := "typeOfLet", desc := "(III)I" } : Jvm.MethodName)) ∈ wAll := mw 502 (by decide +kernel) (by decide +kernel)
theorem wm504 : (Jvm.Cond.instanceMethod ({ cls := "ClassInference$Typer", name := "typeOfLet", desc := "(III)I" } : Jvm.MethodName)) ∈ wAll := mw 504 (by decide +kernel) (by decide +kernel)
theorem wm505 : (Jvm.Cond.code ({ cls := "ClassInference$Typer", name := "typeOfLet", desc := "(III)I" } : Jvm.MethodName) prog_7_method_7_code (7 : Nat) (Option.some Jvm.ClassFile.FieldType.int)) ∈ wAll := mw 505 (by decide +kernel) (by decide +kernel)
theorem wm506 : (Jvm.Cond.methodLink "ClassInference$Typer" (67 : Nat) ({ cls := "ClassInference$Typer", name := "settle", desc := "(II)I" } : Jvm.MethodName)) ∈ wAll := mw 506 (by decide +kernel) (by decide +kernel)
theorem wm570 : (Jvm.Cond.methodLink "ClassInference$Typer" (102 : Nat) ({ cls := "ClassInference$Typer", name := "typeOfMethod", desc := "(I)I" } : Jvm.MethodName)) ∈ wAll := mw 570 (by decide +kernel) (by decide +kernel)
theorem wm572 : (Jvm.Cond.instanceMethod ({ cls := "ClassInference$Typer", name := "typeOfMethod", desc := "(I)I" } : Jvm.MethodName)) ∈ wAll := mw 572 (by decide +kernel) (by decide +kernel)
theorem wm573 : (Jvm.Cond.code ({ cls := "ClassInference$Typer", name := "typeOfMethod", desc := "(I)I" } : Jvm.MethodName) prog_7_method_8_code (3 : Nat) (Option.some Jvm.ClassFile.FieldType.int)) ∈ wAll := mw 573 (by decide +kernel) (by decide +kernel)
theorem wm574 : (Jvm.Cond.methodLink "ClassInference$Typer" (131 : Nat) ({ cls := "ClassInference$ClassTable", name := "methodOf", desc := "(I)I" } : Jvm.MethodName)) ∈ wAll := mw 574 (by decide +kernel) (by decide +kernel)
theorem wm575 : (Jvm.Cond.methodLink "ClassInference$Typer" (105 : Nat) ({ cls := "ClassInference$Typer", name := "freshCopy", desc := "(I)I" } : Jvm.MethodName)) ∈ wAll := mw 575 (by decide +kernel) (by decide +kernel)
theorem wm577 : (Jvm.Cond.instanceMethod ({ cls := "ClassInference$Typer", name := "freshCopy", desc := "(I)I" } : Jvm.MethodName)) ∈ wAll := mw 577 (by decide +kernel) (by decide +kernel)
theorem wm578 : (Jvm.Cond.code ({ cls := "ClassInference$Typer", name := "freshCopy", desc := "(I)I" } : Jvm.MethodName) prog_7_method_11_code (2 : Nat) (Option.some Jvm.ClassFile.FieldType.int)) ∈ wAll := mw 578 (by decide +kernel) (by decide +kernel)
theorem wm579 : (Jvm.Cond.methodLink "ClassInference$Typer" (139 : Nat) ({ cls := "java/util/Arrays", name := "fill", desc := "([II)V" } : Jvm.MethodName)) ∈ wAll := mw 579 (by decide +kernel) (by decide +kernel)
theorem wm580 : (Jvm.Cond.methodLink "ClassInference$Typer" (145 : Nat) ({ cls := "ClassInference$Typer", name := "writeOut", desc := "(I)I" } : Jvm.MethodName)) ∈ wAll := mw 580 (by decide +kernel) (by decide +kernel)
theorem wm582 : (Jvm.Cond.instanceMethod ({ cls := "ClassInference$Typer", name := "writeOut", desc := "(I)I" } : Jvm.MethodName)) ∈ wAll := mw 582 (by decide +kernel) (by decide +kernel)
theorem wm583 : (Jvm.Cond.code ({ cls := "ClassInference$Typer", name := "writeOut", desc := "(I)I" } : Jvm.MethodName) prog_7_method_12_code (7 : Nat) (Option.some Jvm.ClassFile.FieldType.int)) ∈ wAll := mw 583 (by decide +kernel) (by decide +kernel)
theorem wm584 : (Jvm.Cond.methodLink "ClassInference$Typer" (108 : Nat) ({ cls := "ClassInference$Typer", name := "typeOfName", desc := "(I)I" } : Jvm.MethodName)) ∈ wAll := mw 584 (by decide +kernel) (by decide +kernel)
theorem wm599 : (Jvm.Cond.methodLink "ClassInference$Typer" (74 : Nat) ({ cls := "ClassInference$Graph", name := "isCircular", desc := "()Z" } : Jvm.MethodName)) ∈ wAll := mw 599 (by decide +kernel) (by decide +kernel)
theorem wm682 : (Jvm.Cond.instanceMethod ({ cls := "ClassInference$ClassTable", name := "holdsAll", desc := "(IILClassInference$TypeTable;)Z" } : Jvm.MethodName)) ∈ wAll := mw 682 (by decide +kernel) (by decide +kernel)
theorem wm683 : (Jvm.Cond.selects "ClassInference$ClassTable" ({ cls := "ClassInference$ClassTable", name := "holdsAll", desc := "(IILClassInference$TypeTable;)Z" } : Jvm.MethodName) ({ cls := "ClassInference$ClassTable", name := "holdsAll", desc := "(IILClassInference$TypeTable;)Z" } : Jvm.MethodName)) ∈ wAll := mw 683 (by decide +kernel) (by decide +kernel)
theorem wm684 : (Jvm.Cond.code ({ cls := "ClassInference$ClassTable", name := "holdsAll", desc := "(IILClassInference$TypeTable;)Z" } : Jvm.MethodName) prog_2_method_14_code (4 : Nat) (Option.some Jvm.ClassFile.FieldType.boolean)) ∈ wAll := mw 684 (by decide +kernel) (by decide +kernel)
theorem wm685 : (Jvm.Cond.methodLink "ClassInference$ClassTable" (55 : Nat) ({ cls := "ClassInference$ClassTable", name := "holdsAllDown", desc := "(IILClassInference$TypeTable;I)Z" } : Jvm.MethodName)) ∈ wAll := mw 685 (by decide +kernel) (by decide +kernel)
theorem wm687 : (Jvm.Cond.instanceMethod ({ cls := "ClassInference$ClassTable", name := "holdsAllDown", desc := "(IILClassInference$TypeTable;I)Z" } : Jvm.MethodName)) ∈ wAll := mw 687 (by decide +kernel) (by decide +kernel)
theorem wm688 : (Jvm.Cond.code ({ cls := "ClassInference$ClassTable", name := "holdsAllDown", desc := "(IILClassInference$TypeTable;I)Z" } : Jvm.MethodName) prog_2_method_15_code (10 : Nat) (Option.some Jvm.ClassFile.FieldType.boolean)) ∈ wAll := mw 688 (by decide +kernel) (by decide +kernel)
theorem wm689 : (Jvm.Cond.methodLink "ClassInference$ClassTable" (64 : Nat) ({ cls := "ClassInference$ClassTable", name := "haveInstances", desc := "(II)Z" } : Jvm.MethodName)) ∈ wAll := mw 689 (by decide +kernel) (by decide +kernel)
theorem wm690 : (Jvm.Cond.methodLink "ClassInference$ClassTable" (67 : Nat) ({ cls := "ClassInference$ClassTable", name := "joined", desc := "([III)I" } : Jvm.MethodName)) ∈ wAll := mw 690 (by decide +kernel) (by decide +kernel)
theorem wn104 : (Jvm.Cond.fieldLinkNest "ClassInference$Typer" (86 : Nat) "ClassInference$ExpressionTable" "kind" "[I" "ClassInference") ∈ nwAll := mwN 104 (by decide +kernel) (by decide +kernel)
theorem wn106 : (Jvm.Cond.fieldLinkNest "ClassInference$Typer" (78 : Nat) "ClassInference$ExpressionTable" "a" "[I" "ClassInference") ∈ nwAll := mwN 106 (by decide +kernel) (by decide +kernel)
theorem wn108 : (Jvm.Cond.fieldLinkNest "ClassInference$Typer" (83 : Nat) "ClassInference$ExpressionTable" "b" "[I" "ClassInference") ∈ nwAll := mwN 108 (by decide +kernel) (by decide +kernel)
theorem wn110 : (Jvm.Cond.fieldLinkNest "ClassInference$Typer" (95 : Nat) "ClassInference$ExpressionTable" "c" "[I" "ClassInference") ∈ nwAll := mwN 110 (by decide +kernel) (by decide +kernel)
theorem wn30 : (Jvm.Cond.fieldLinkNest "ClassInference$Typer" (148 : Nat) "ClassInference$TypeTable" "head" "[I" "ClassInference") ∈ nwAll := mwN 30 (by decide +kernel) (by decide +kernel)
theorem wn31 : (Jvm.Cond.fieldLinkNest "ClassInference$ClassTable" (59 : Nat) "ClassInference$TypeTable" "head" "[I" "ClassInference") ∈ nwAll := mwN 31 (by decide +kernel) (by decide +kernel)
theorem wn33 : (Jvm.Cond.fieldLinkNest "ClassInference$Typer" (153 : Nat) "ClassInference$TypeTable" "first" "[I" "ClassInference") ∈ nwAll := mwN 33 (by decide +kernel) (by decide +kernel)
theorem wn34 : (Jvm.Cond.fieldLinkNest "ClassInference$ClassTable" (71 : Nat) "ClassInference$TypeTable" "first" "[I" "ClassInference") ∈ nwAll := mwN 34 (by decide +kernel) (by decide +kernel)
theorem wn36 : (Jvm.Cond.fieldLinkNest "ClassInference$Typer" (156 : Nat) "ClassInference$TypeTable" "second" "[I" "ClassInference") ∈ nwAll := mwN 36 (by decide +kernel) (by decide +kernel)
theorem wn37 : (Jvm.Cond.fieldLinkNest "ClassInference$ClassTable" (74 : Nat) "ClassInference$TypeTable" "second" "[I" "ClassInference") ∈ nwAll := mwN 37 (by decide +kernel) (by decide +kernel)
theorem wp10 : Cond.selects "ClassInference$Typer" ⟨"ClassInference$Typer", "typeOfApply", "(II)I"⟩ ⟨"ClassInference$Typer", "typeOfApply", "(II)I"⟩ ∈ wAll := mwP 10 (by decide +kernel) (by decide +kernel)
theorem wp15 : Cond.selects "ClassInference$Typer" ⟨"ClassInference$Typer", "typeOfLet", "(III)I"⟩ ⟨"ClassInference$Typer", "typeOfLet", "(III)I"⟩ ∈ wAll := mwP 15 (by decide +kernel) (by decide +kernel)
theorem wp23 : Cond.selects "ClassInference$Typer" ⟨"ClassInference$Typer", "typeOfMethod", "(I)I"⟩ ⟨"ClassInference$Typer", "typeOfMethod", "(I)I"⟩ ∈ wAll := mwP 23 (by decide +kernel) (by decide +kernel)
theorem wp24 : Cond.selects "ClassInference$Typer" ⟨"ClassInference$Typer", "freshCopy", "(I)I"⟩ ⟨"ClassInference$Typer", "freshCopy", "(I)I"⟩ ∈ wAll := mwP 24 (by decide +kernel) (by decide +kernel)
theorem wp25 : Cond.selects "ClassInference$Typer" ⟨"ClassInference$Typer", "writeOut", "(I)I"⟩ ⟨"ClassInference$Typer", "writeOut", "(I)I"⟩ ∈ wAll := mwP 25 (by decide +kernel) (by decide +kernel)
theorem wp29 : Cond.selects "ClassInference$ClassTable" ⟨"ClassInference$ClassTable", "holdsAllDown", "(IILClassInference$TypeTable;I)Z"⟩ ⟨"ClassInference$ClassTable", "holdsAllDown", "(IILClassInference$TypeTable;I)Z"⟩ ∈ wAll := mwP 29 (by decide +kernel) (by decide +kernel)
theorem wp5 : Cond.selects "ClassInference$Typer" ⟨"ClassInference$Typer", "typeOf", "(I)I"⟩ ⟨"ClassInference$Typer", "typeOf", "(I)I"⟩ ∈ wAll := mwP 5 (by decide +kernel) (by decide +kernel)
theorem wp6 : Cond.selects "ClassInference$Typer" ⟨"ClassInference$Typer", "typeOfLambda", "(II)I"⟩ ⟨"ClassInference$Typer", "typeOfLambda", "(II)I"⟩ ∈ wAll := mwP 6 (by decide +kernel) (by decide +kernel)
section MTH2
variable {p : Program} {l : Launch} {e : Env} {s : State} {m : MethodId} {args : Array Value} {below : List Frame} {meth : Method} {c : Code} {Q : State → Prop} {A : Nat → Prop} {D : va_G} {G : G_} {ws0 : va_W} {mc ms : Nat} {a0 : L_}
set_option maxRecDepth 100000 in
set_option maxHeartbeats 4000000 in
theorem kkK_holdsAllDown {p : Program} {l : Launch} {e : Env} {R : Room} {s : State} {m : MethodId} {args : Array Value} {below : List Frame} {meth : Method} {c : Code} {cells slots : Nat} {Q : State → Prop} {A : Nat → Prop} {D : va_G} {nL pc : Nat} {cc : ByteArray} {cw : Cond} {own : String} {lv : List (Nat × Value)} {st : List Value} {G : G_} {a : L_} {r : S_} {F Lc : Nat} {K : Int32 → Prop} {p0 : Int32} {p1 : Int32} {p3 : Int32} (C : vx_C p s m args c cc nL (cw :: wAll) own D vwCl (tysG G) nwAll A) {i : Nat} (hl : Cond.methodLink own i yK_holdsAllDown ∈ wAll) (hR : F + 1 ≤ R.frames ∧ 8 + (10 + 11) + Lc ≤ R.locals) (hst : (st.map fun v => v.category).sum ≤ 8) (hd : decode cc pc = .ok (.invokevirtual i, 3)) (hcs : cells ≤ R.cells ∧ slots ≤ R.slots) (h : vx_Mi l yK_holdsAllDown (Cond.code yK_holdsAllDown prog_2_method_15_code 10 (some .boolean) :: wAll) { frames := F, cells := 0, slots := 0, locals := Lc } D vwCl (tysG G) nwAll (wo G a r) [.ref (ob G 2), .int p0, .int p1, .ref (ob G 1), .int p3] 0 0 (fun v w => w = wo G a r ∧ zb v ∧ K v)) (k : ∀ (v : Int32), zb v → K v → vx_V p l e R s m args below meth c A D vwCl nL cells slots Q (wo G a r) (pc + 3) lv (.int v :: st)) : vx_V p l e R s m args below meth c A D vwCl nL cells slots Q (wo G a r) pc lv (.int p3 :: .ref (ob G 1) :: .int p1 :: .int p0 :: .ref (ob G 2) :: st) := by
  refine x_callVi C (CC := "ClassInference$ClassTable") (ci := 2) (q0 := 2) (fs := fl2 G a r) (As := [.int p0, .int p1, .ref (ob G 1), .int p3]) rfl rfl h (cwV (C := "ClassInference$ClassTable") 4 C.1.2.2.2.2 (goodV hl wm687 wp29 wm3 wm688) rfl rfl rfl (by decide +kernel) hR) rfl hst hd hcs (fun v w hw => ?_)
  obtain ⟨rfl, h⟩ := hw
  exact k v h.1 h.2
def qK_holdsAllDown_B_J118 (a : L_) (r : S_) (T : (Int32 → Prop) → Int32 → Int32 → Int32 → Prop) (K : Int32 → Prop) : Prop :=
  zb 1 ∧ K 1
set_option maxRecDepth 100000 in
set_option maxHeartbeats 4000000 in
theorem tK_holdsAllDown_B_J118 (C : vx_C p s m args c prog_2_method_15_code 10 (Cond.code yK_holdsAllDown prog_2_method_15_code 10 (some .boolean) :: wAll) "ClassInference$ClassTable" D vwCl (tysG G) nwAll A) (hA : A = va_A ws0 s.heap.size) (hlocks : meth.locks = false) (hr : meth.sig.returnType = (some .boolean)) {a : L_} {r : S_} {T : (Int32 → Prop) → Int32 → Int32 → Int32 → Prop} {d : Nat} (hT : ∀ (K : Int32 → Prop) (p0 : Int32) (p1 : Int32) (p3 : Int32), T K p0 p1 p3 → vx_Mi l yK_holdsAllDown (Cond.code yK_holdsAllDown prog_2_method_15_code 10 (some .boolean) :: wAll) { frames := 2 * d + 3, cells := 0, slots := 0, locals := 29 * d + 46 } D vwCl (tysG G) nwAll (wo G a r) [.ref (ob G 2), .int p0, .int p1, .ref (ob G 1), .int p3] 0 0 (fun v w => w = wo G a r ∧ zb v ∧ K v)) {K : Int32 → Prop} (h : qK_holdsAllDown_B_J118 a r T K ) : vx_V p l e { frames := 2 * (d + 1) + 3, cells := 0, slots := 0, locals := 29 * (d + 1) + 46 } s m args below meth c A D vwCl 10 0 0 (MQ below (va_Qi (fun v w => w = wo G a r ∧ zb v ∧ K v) (vx_B D vwCl (tysG G) A) A) args s 0 0 A) (wo G a r) 118 [] [] := by
  unfold qK_holdsAllDown_B_J118 at h
  refine x_iconst (v := 1) C dK_holdsAllDown_118 (by decide) ?_
  refine x_goto (tgt := 123) C dK_holdsAllDown_119 (by decide) ?_
  obtain ⟨g14, h⟩ := h
  exact x_zret C hA hlocks hr (zb_n g14) ⟨rfl, g14, h⟩ dK_holdsAllDown_123
def qK_holdsAllDown_B_J96 (a : L_) (r : S_) (T : (Int32 → Prop) → Int32 → Int32 → Int32 → Prop) (K : Int32 → Prop) (v4 : Int32) (v7 : Int32) (v9 : Int32) : Prop :=
  ((v9 = (-1)) → qK_holdsAllDown_B_J118 a r T K) ∧ ((¬ v9 = (-1)) → T (fun z15 => zb z15 → ((z15 = 0) → zb 0 ∧ K 0) ∧ ((¬ z15 = 0) → qK_holdsAllDown_B_J118 a r T K)) v7 v9 (v4 + 1))
set_option maxRecDepth 100000 in
set_option maxHeartbeats 4000000 in
theorem tK_holdsAllDown_B_J96 (C : vx_C p s m args c prog_2_method_15_code 10 (Cond.code yK_holdsAllDown prog_2_method_15_code 10 (some .boolean) :: wAll) "ClassInference$ClassTable" D vwCl (tysG G) nwAll A) (hA : A = va_A ws0 s.heap.size) (hlocks : meth.locks = false) (hr : meth.sig.returnType = (some .boolean)) {a : L_} {r : S_} {T : (Int32 → Prop) → Int32 → Int32 → Int32 → Prop} {d : Nat} (hT : ∀ (K : Int32 → Prop) (p0 : Int32) (p1 : Int32) (p3 : Int32), T K p0 p1 p3 → vx_Mi l yK_holdsAllDown (Cond.code yK_holdsAllDown prog_2_method_15_code 10 (some .boolean) :: wAll) { frames := 2 * d + 3, cells := 0, slots := 0, locals := 29 * d + 46 } D vwCl (tysG G) nwAll (wo G a r) [.ref (ob G 2), .int p0, .int p1, .ref (ob G 1), .int p3] 0 0 (fun v w => w = wo G a r ∧ zb v ∧ K v)) {K : Int32 → Prop} (v4 : Int32) (v7 : Int32) (v9 : Int32) (h : qK_holdsAllDown_B_J96 a r T K v4 v7 v9) : vx_V p l e { frames := 2 * (d + 1) + 3, cells := 0, slots := 0, locals := 29 * (d + 1) + 46 } s m args below meth c A D vwCl 10 0 0 (MQ below (va_Qi (fun v w => w = wo G a r ∧ zb v ∧ K v) (vx_B D vwCl (tysG G) A) A) args s 0 0 A) (wo G a r) 96 [(0, .ref (ob G 2)), (3, .ref (ob G 1)), (4, .int v4), (7, .int v7), (9, .int v9)] [] := by
  unfold qK_holdsAllDown_B_J96 at h
  refine x_iload C dK_holdsAllDown_96 4 rfl ?_
  refine x_iconst (v := (-1)) C dK_holdsAllDown_98 (by decide) ?_
  refine x_icmp_eq (tgt := 118) C dK_holdsAllDown_99 (by decide) (fun g13 => ?_) (fun g13 => ?_)
  · have h := h.1 g13
    refine x_sub [] rfl ?_
    exact tK_holdsAllDown_B_J118 C hA hlocks hr hT h
  · have h := h.2 g13
    refine x_aload_n C dK_holdsAllDown_102 rfl 0 rfl ?_
    refine x_iload C dK_holdsAllDown_103 3 rfl ?_
    refine x_iload C dK_holdsAllDown_105 4 rfl ?_
    refine x_aload_n C dK_holdsAllDown_107 rfl 1 rfl ?_
    refine x_iload C dK_holdsAllDown_108 2 rfl ?_
    refine x_iconst (v := 1) C dK_holdsAllDown_110 (by decide) ?_
    refine x_iadd C dK_holdsAllDown_111 ?_
    refine kkK_holdsAllDown C wm685 ⟨by show 2 * d + 3 + 1 ≤ 2 * (d + 1) + 3; omega, by show 8 + (10 + 11) + (29 * d + 46) ≤ 29 * (d + 1) + 46; omega⟩ (Nat.le_of_ble_eq_true rfl) dK_holdsAllDown_112 ⟨Nat.zero_le _, Nat.zero_le _⟩ (hT _ v7 v9 (v4 + 1) h) (fun z15 hzz15 h => ?_)
    have h := h hzz15
    refine x_if_eq (tgt := 122) C dK_holdsAllDown_115 (by decide) (fun g16 => ?_) (fun g16 => ?_)
    · have h := h.1 g16
      refine x_iconst (v := 0) C dK_holdsAllDown_122 (by decide) ?_
      obtain ⟨g17, h⟩ := h
      exact x_zret C hA hlocks hr (zb_n g17) ⟨rfl, g17, h⟩ dK_holdsAllDown_123
    · have h := h.2 g16
      refine x_sub [] rfl ?_
      exact tK_holdsAllDown_B_J118 C hA hlocks hr hT h
def qK_holdsAllDown_B (a : L_) (r : S_) (T : (Int32 → Prop) → Int32 → Int32 → Int32 → Prop) (K : Int32 → Prop) (p0 : Int32) (p1 : Int32) (p3 : Int32) : Prop :=
  vp_in p1 (ln a 1) ∧ ((16 < p3) → zb 0 ∧ K 0) ∧ ((¬ 16 < p3) → (((ar r 1 p1.toNatClampNeg) < 0) → zb 0 ∧ K 0) ∧ ((¬ (ar r 1 p1.toNatClampNeg) < 0) → qK_haveInstances a r (fun z6 => zb z6 → ((¬ z6 = 0) → qK_joined a r 10 (fun z8 => qK_joined a r 11 (fun z9 => vp_in p1 (ln a 2) ∧ vp_in p1 (ln a 3) ∧ (((ar r 2 p1.toNatClampNeg) = (-1)) → qK_holdsAllDown_B_J96 a r T K p3 z9 (ar r 3 p1.toNatClampNeg)) ∧ ((¬ (ar r 2 p1.toNatClampNeg) = (-1)) → T (fun z18 => zb z18 → ((z18 = 0) → zb 0 ∧ K 0) ∧ ((¬ z18 = 0) → qK_holdsAllDown_B_J96 a r T K p3 z9 (ar r 3 p1.toNatClampNeg))) z8 (ar r 2 p1.toNatClampNeg) (p3 + 1))) p0 (ar r 1 p1.toNatClampNeg)) p0 (ar r 1 p1.toNatClampNeg)) ∧ ((z6 = 0) → zb 0 ∧ K 0)) p0 (ar r 1 p1.toNatClampNeg)))
set_option maxRecDepth 100000 in
set_option maxHeartbeats 4000000 in
theorem cK_holdsAllDown_B {a : L_} {r : S_} {T : (Int32 → Prop) → Int32 → Int32 → Int32 → Prop} {K : Int32 → Prop} {d : Nat} (hT : ∀ (K : Int32 → Prop) (p0 : Int32) (p1 : Int32) (p3 : Int32), T K p0 p1 p3 → vx_Mi l yK_holdsAllDown (Cond.code yK_holdsAllDown prog_2_method_15_code 10 (some .boolean) :: wAll) { frames := 2 * d + 3, cells := 0, slots := 0, locals := 29 * d + 46 } D vwCl (tysG G) nwAll (wo G a r) [.ref (ob G 2), .int p0, .int p1, .ref (ob G 1), .int p3] 0 0 (fun v w => w = wo G a r ∧ zb v ∧ K v)) (p0 : Int32) (p1 : Int32) (p3 : Int32) (h : qK_holdsAllDown_B a r T K p0 p1 p3) : vx_Mi l yK_holdsAllDown (Cond.code yK_holdsAllDown prog_2_method_15_code 10 (some .boolean) :: wAll) { frames := 2 * (d + 1) + 3, cells := 0, slots := 0, locals := 29 * (d + 1) + 46 } D vwCl (tysG G) nwAll (wo G a r) [.ref (ob G 2), .int p0, .int p1, .ref (ob G 1), .int p3] 0 0 (fun v w => w = wo G a r ∧ zb v ∧ K v) := by
  unfold qK_holdsAllDown_B at h
  refine x_meti (cc := prog_2_method_15_code) (maxL := 10) (ret := (some .boolean)) (lv0 := [(0, .ref (ob G 2)), (1, .int p0), (2, .int p1), (3, .ref (ob G 1)), (4, .int p3)]) (by decide) rfl (Nat.le_of_ble_eq_true rfl) rfl ?_
  intro p e s m args below meth c A C hA hlocks hr
  refine x_aload_n C dK_holdsAllDown_0 rfl 3 rfl ?_
  refine gn_1_2 C wn31 dK_holdsAllDown_1 ?_
  refine x_iload_n C dK_holdsAllDown_4 rfl 2 rfl ?_
  obtain ⟨g1, h⟩ := h
  refine y_ia C 1 (by decide) g1 dK_holdsAllDown_5 ?_
  refine x_istore C [(5, .int (ar r 1 p1.toNatClampNeg)), (0, .ref (ob G 2)), (1, .int p0), (2, .int p1), (3, .ref (ob G 1)), (4, .int p3)] dK_holdsAllDown_6 (by decide) rfl ?_
  refine x_iload C dK_holdsAllDown_8 5 rfl ?_
  refine x_bipush (v := 16) C dK_holdsAllDown_10 (by decide) ?_
  refine x_icmp_gt (tgt := 30) C dK_holdsAllDown_12 (by decide) (fun g2 => ?_) (fun g2 => ?_)
  · have h := h.1 g2
    refine x_iconst (v := 0) C dK_holdsAllDown_30 (by decide) ?_
    obtain ⟨g3, h⟩ := h
    exact x_zret C hA hlocks hr (zb_n g3) ⟨rfl, g3, h⟩ dK_holdsAllDown_31
  · have h := h.2 g2
    refine x_iload C dK_holdsAllDown_15 0 rfl ?_
    refine x_if_lt (tgt := 30) C dK_holdsAllDown_17 (by decide) (fun g4 => ?_) (fun g4 => ?_)
    · have h := h.1 g4
      refine x_iconst (v := 0) C dK_holdsAllDown_30 (by decide) ?_
      obtain ⟨g5, h⟩ := h
      exact x_zret C hA hlocks hr (zb_n g5) ⟨rfl, g5, h⟩ dK_holdsAllDown_31
    · have h := h.2 g4
      refine x_aload_n C dK_holdsAllDown_20 rfl 1 rfl ?_
      refine x_iload_n C dK_holdsAllDown_21 rfl 2 rfl ?_
      refine x_iload C dK_holdsAllDown_22 0 rfl ?_
      refine kK_haveInstances C wm689 ⟨by show 1 + 1 ≤ 2 * (d + 1) + 3; omega, by show 8 + (4 + 11) + (21) ≤ 29 * (d + 1) + 46; omega⟩ (Nat.le_of_ble_eq_true rfl) dK_holdsAllDown_24 ⟨Nat.zero_le _, Nat.zero_le _⟩ h (fun z6 hzz6 h => ?_)
      have h := h hzz6
      refine x_if_ne (tgt := 32) C dK_holdsAllDown_27 (by decide) (fun g7 => ?_) (fun g7 => ?_)
      · have h := h.1 g7
        refine x_aload_n C dK_holdsAllDown_32 rfl 1 rfl ?_
        refine x_aload_n C dK_holdsAllDown_33 rfl 1 rfl ?_
        refine gf_2_5 C (List.mem_cons_of_mem _ wm75) dK_holdsAllDown_34 ?_
        refine x_iload_n C dK_holdsAllDown_37 rfl 2 rfl ?_
        refine x_iload C dK_holdsAllDown_38 0 rfl ?_
        refine kK_joined C (by decide) wm690 ⟨by show 1 + 1 ≤ 2 * (d + 1) + 3; omega, by show 8 + (6 + 11) + (21) ≤ 29 * (d + 1) + 46; omega⟩ (Nat.le_of_ble_eq_true rfl) dK_holdsAllDown_40 ⟨Nat.zero_le _, Nat.zero_le _⟩ h (fun z8 h => ?_)
        refine x_istore C [(6, .int z8), (5, .int (ar r 1 p1.toNatClampNeg)), (0, .ref (ob G 2)), (1, .int p0), (2, .int p1), (3, .ref (ob G 1)), (4, .int p3)] dK_holdsAllDown_43 (by decide) rfl ?_
        refine x_aload_n C dK_holdsAllDown_45 rfl 2 rfl ?_
        refine x_aload_n C dK_holdsAllDown_46 rfl 2 rfl ?_
        refine gf_2_6 C (List.mem_cons_of_mem _ wm77) dK_holdsAllDown_47 ?_
        refine x_iload_n C dK_holdsAllDown_50 rfl 3 rfl ?_
        refine x_iload C dK_holdsAllDown_51 1 rfl ?_
        refine kK_joined C (by decide) wm690 ⟨by show 1 + 1 ≤ 2 * (d + 1) + 3; omega, by show 8 + (6 + 11) + (21) ≤ 29 * (d + 1) + 46; omega⟩ (Nat.le_of_ble_eq_true rfl) dK_holdsAllDown_53 ⟨Nat.zero_le _, Nat.zero_le _⟩ h (fun z9 h => ?_)
        refine x_istore C [(7, .int z9), (6, .int z8), (5, .int (ar r 1 p1.toNatClampNeg)), (0, .ref (ob G 2)), (1, .int p0), (2, .int p1), (3, .ref (ob G 1)), (4, .int p3)] dK_holdsAllDown_56 (by decide) rfl ?_
        refine x_aload_n C dK_holdsAllDown_58 rfl 6 rfl ?_
        refine gn_1_3 C wn34 dK_holdsAllDown_59 ?_
        refine x_iload_n C dK_holdsAllDown_62 rfl 5 rfl ?_
        obtain ⟨g10, h⟩ := h
        refine y_ia C 2 (by decide) g10 dK_holdsAllDown_63 ?_
        refine x_istore C [(8, .int (ar r 2 p1.toNatClampNeg)), (7, .int z9), (6, .int z8), (5, .int (ar r 1 p1.toNatClampNeg)), (0, .ref (ob G 2)), (1, .int p0), (2, .int p1), (3, .ref (ob G 1)), (4, .int p3)] dK_holdsAllDown_64 (by decide) rfl ?_
        refine x_aload_n C dK_holdsAllDown_66 rfl 7 rfl ?_
        refine gn_1_4 C wn37 dK_holdsAllDown_67 ?_
        refine x_iload_n C dK_holdsAllDown_70 rfl 6 rfl ?_
        obtain ⟨g11, h⟩ := h
        refine y_ia C 3 (by decide) g11 dK_holdsAllDown_71 ?_
        refine x_istore C [(9, .int (ar r 3 p1.toNatClampNeg)), (8, .int (ar r 2 p1.toNatClampNeg)), (7, .int z9), (6, .int z8), (5, .int (ar r 1 p1.toNatClampNeg)), (0, .ref (ob G 2)), (1, .int p0), (2, .int p1), (3, .ref (ob G 1)), (4, .int p3)] dK_holdsAllDown_72 (by decide) rfl ?_
        refine x_iload C dK_holdsAllDown_74 1 rfl ?_
        refine x_iconst (v := (-1)) C dK_holdsAllDown_76 (by decide) ?_
        refine x_icmp_eq (tgt := 96) C dK_holdsAllDown_77 (by decide) (fun g12 => ?_) (fun g12 => ?_)
        · have h := h.1 g12
          refine x_sub [5, 8, 9, 2, 0] rfl ?_
          exact tK_holdsAllDown_B_J96 C hA hlocks hr hT p3 z9 (ar r 3 p1.toNatClampNeg) h
        · have h := h.2 g12
          refine x_aload_n C dK_holdsAllDown_80 rfl 5 rfl ?_
          refine x_iload C dK_holdsAllDown_81 3 rfl ?_
          refine x_iload C dK_holdsAllDown_83 1 rfl ?_
          refine x_aload_n C dK_holdsAllDown_85 rfl 8 rfl ?_
          refine x_iload C dK_holdsAllDown_86 9 rfl ?_
          refine x_iconst (v := 1) C dK_holdsAllDown_88 (by decide) ?_
          refine x_iadd C dK_holdsAllDown_89 ?_
          refine kkK_holdsAllDown C wm685 ⟨by show 2 * d + 3 + 1 ≤ 2 * (d + 1) + 3; omega, by show 8 + (10 + 11) + (29 * d + 46) ≤ 29 * (d + 1) + 46; omega⟩ (Nat.le_of_ble_eq_true rfl) dK_holdsAllDown_90 ⟨Nat.zero_le _, Nat.zero_le _⟩ (hT _ z8 (ar r 2 p1.toNatClampNeg) (p3 + 1) h) (fun z18 hzz18 h => ?_)
          have h := h hzz18
          refine x_if_eq (tgt := 122) C dK_holdsAllDown_93 (by decide) (fun g19 => ?_) (fun g19 => ?_)
          · have h := h.1 g19
            refine x_iconst (v := 0) C dK_holdsAllDown_122 (by decide) ?_
            obtain ⟨g20, h⟩ := h
            exact x_zret C hA hlocks hr (zb_n g20) ⟨rfl, g20, h⟩ dK_holdsAllDown_123
          · have h := h.2 g19
            refine x_sub [5, 8, 9, 2, 0] rfl ?_
            exact tK_holdsAllDown_B_J96 C hA hlocks hr hT p3 z9 (ar r 3 p1.toNatClampNeg) h
      · have h := h.2 g7
        refine x_iconst (v := 0) C dK_holdsAllDown_30 (by decide) ?_
        obtain ⟨g21, h⟩ := h
        exact x_zret C hA hlocks hr (zb_n g21) ⟨rfl, g21, h⟩ dK_holdsAllDown_31
def qK_holdsAllDown (a : L_) (r : S_) : Nat → (Int32 → Prop) → Int32 → Int32 → Int32 → Prop
  | 0, _, _, _, _ => False
  | d + 1, K, p0, p1, p3 => qK_holdsAllDown_B a r (qK_holdsAllDown a r d) K p0 p1 p3
set_option maxRecDepth 100000 in
set_option maxHeartbeats 4000000 in
theorem rK_holdsAllDown {a : L_} {r : S_} : ∀ d : Nat, ∀ (K : Int32 → Prop) (p0 : Int32) (p1 : Int32) (p3 : Int32), qK_holdsAllDown a r d K p0 p1 p3 → vx_Mi l yK_holdsAllDown (Cond.code yK_holdsAllDown prog_2_method_15_code 10 (some .boolean) :: wAll) { frames := 2 * d + 3, cells := 0, slots := 0, locals := 29 * d + 46 } D vwCl (tysG G) nwAll (wo G a r) [.ref (ob G 2), .int p0, .int p1, .ref (ob G 1), .int p3] 0 0 (fun v w => w = wo G a r ∧ zb v ∧ K v) := by
  intro d
  induction d with
  | zero =>
    intro K p0 p1 p3 h
    rw [qK_holdsAllDown] at h
    exact h.elim
  | succ d ih =>
    intro K p0 p1 p3 h
    rw [qK_holdsAllDown] at h
    exact cK_holdsAllDown_B ih p0 p1 p3 h
set_option maxRecDepth 100000 in
set_option maxHeartbeats 4000000 in
theorem kK_holdsAllDown {p : Program} {l : Launch} {e : Env} {R : Room} {s : State} {m : MethodId} {args : Array Value} {below : List Frame} {meth : Method} {c : Code} {cells slots : Nat} {Q : State → Prop} {A : Nat → Prop} {D : va_G} {nL pc : Nat} {cc : ByteArray} {cw : Cond} {own : String} {lv : List (Nat × Value)} {st : List Value} {G : G_} {a : L_} {r : S_} {d : Nat} {K : Int32 → Prop} {p0 : Int32} {p1 : Int32} {p3 : Int32} (C : vx_C p s m args c cc nL (cw :: wAll) own D vwCl (tysG G) nwAll A) {i : Nat} (hl : Cond.methodLink own i yK_holdsAllDown ∈ wAll) (hR : (2 * d + 3) + 1 ≤ R.frames ∧ 8 + (10 + 11) + (29 * d + 46) ≤ R.locals) (hst : (st.map fun v => v.category).sum ≤ 8) (hd : decode cc pc = .ok (.invokevirtual i, 3)) (hcs : cells ≤ R.cells ∧ slots ≤ R.slots) (h : qK_holdsAllDown a r d K p0 p1 p3) (k : ∀ (v : Int32), zb v → K v → vx_V p l e R s m args below meth c A D vwCl nL cells slots Q (wo G a r) (pc + 3) lv (.int v :: st)) : vx_V p l e R s m args below meth c A D vwCl nL cells slots Q (wo G a r) pc lv (.int p3 :: .ref (ob G 1) :: .int p1 :: .int p0 :: .ref (ob G 2) :: st) := by
  refine x_callVi C (CC := "ClassInference$ClassTable") (ci := 2) (q0 := 2) (fs := fl2 G a r) (As := [.int p0, .int p1, .ref (ob G 1), .int p3]) rfl rfl (rK_holdsAllDown d K p0 p1 p3 h) (cwV (C := "ClassInference$ClassTable") 4 C.1.2.2.2.2 (goodV hl wm687 wp29 wm3 wm688) rfl rfl rfl (by decide +kernel) hR) rfl hst hd hcs (fun v w hw => ?_)
  obtain ⟨rfl, h⟩ := hw
  exact k v h.1 h.2
def qK_holdsAll (a : L_) (r : S_) (K : Int32 → Prop) (p0 : Int32) (p1 : Int32) : Prop :=
  qK_holdsAllDown a r 19 (fun z1 => zb z1 → zb z1 ∧ K z1) p0 p1 0
set_option maxRecDepth 100000 in
set_option maxHeartbeats 4000000 in
theorem cK_holdsAll {a : L_} {r : S_} {K : Int32 → Prop} (p0 : Int32) (p1 : Int32) (h : qK_holdsAll a r K p0 p1) : vx_Mi l yK_holdsAll (Cond.code yK_holdsAll prog_2_method_14_code 4 (some .boolean) :: wAll) { frames := 42, cells := 0, slots := 0, locals := 626 } D vwCl (tysG G) nwAll (wo G a r) [.ref (ob G 2), .int p0, .int p1, .ref (ob G 1)] 0 0 (fun v w => w = wo G a r ∧ zb v ∧ K v) := by
  unfold qK_holdsAll at h
  refine x_meti (cc := prog_2_method_14_code) (maxL := 4) (ret := (some .boolean)) (lv0 := [(0, .ref (ob G 2)), (1, .int p0), (2, .int p1), (3, .ref (ob G 1))]) (by decide) rfl (Nat.le_of_ble_eq_true rfl) rfl ?_
  intro p e s m args below meth c A C hA hlocks hr
  refine x_aload_n C dK_holdsAll_0 rfl 0 rfl ?_
  refine x_iload_n C dK_holdsAll_1 rfl 1 rfl ?_
  refine x_iload_n C dK_holdsAll_2 rfl 2 rfl ?_
  refine x_aload_n C dK_holdsAll_3 rfl 3 rfl ?_
  refine x_iconst (v := 0) C dK_holdsAll_4 (by decide) ?_
  refine kK_holdsAllDown (d := 19) C wm685 ⟨Nat.le_of_ble_eq_true rfl, Nat.le_of_ble_eq_true rfl⟩ (Nat.le_of_ble_eq_true rfl) dK_holdsAll_5 ⟨Nat.zero_le _, Nat.zero_le _⟩ h (fun z1 hzz1 h => ?_)
  have h := h hzz1
  obtain ⟨g2, h⟩ := h
  exact x_zret C hA hlocks hr (zb_n g2) ⟨rfl, g2, h⟩ dK_holdsAll_8
set_option maxRecDepth 100000 in
set_option maxHeartbeats 4000000 in
theorem kK_holdsAll {p : Program} {l : Launch} {e : Env} {R : Room} {s : State} {m : MethodId} {args : Array Value} {below : List Frame} {meth : Method} {c : Code} {cells slots : Nat} {Q : State → Prop} {A : Nat → Prop} {D : va_G} {nL pc : Nat} {cc : ByteArray} {cw : Cond} {own : String} {lv : List (Nat × Value)} {st : List Value} {G : G_} {a : L_} {r : S_} {K : Int32 → Prop} {p0 : Int32} {p1 : Int32} (C : vx_C p s m args c cc nL (cw :: wAll) own D vwCl (tysG G) nwAll A) {i : Nat} (hl : Cond.methodLink own i yK_holdsAll ∈ wAll) (hR : 42 + 1 ≤ R.frames ∧ 8 + (4 + 11) + 626 ≤ R.locals) (hst : (st.map fun v => v.category).sum ≤ 8) (hd : decode cc pc = .ok (.invokevirtual i, 3)) (hcs : cells ≤ R.cells ∧ slots ≤ R.slots) (h : qK_holdsAll a r K p0 p1) (k : ∀ (v : Int32), zb v → K v → vx_V p l e R s m args below meth c A D vwCl nL cells slots Q (wo G a r) (pc + 3) lv (.int v :: st)) : vx_V p l e R s m args below meth c A D vwCl nL cells slots Q (wo G a r) pc lv (.ref (ob G 1) :: .int p1 :: .int p0 :: .ref (ob G 2) :: st) := by
  refine x_callVi C (CC := "ClassInference$ClassTable") (ci := 2) (q0 := 2) (fs := fl2 G a r) (As := [.int p0, .int p1, .ref (ob G 1)]) rfl rfl (cK_holdsAll p0 p1 h) (cwV (C := "ClassInference$ClassTable") 3 C.1.2.2.2.2 (goodV hl wm682 wm683 wm3 wm684) rfl rfl rfl (by decide +kernel) hR) rfl hst hd hcs (fun v w hw => ?_)
  obtain ⟨rfl, h⟩ := hw
  exact k v h.1 h.2
set_option maxRecDepth 100000 in
set_option maxHeartbeats 4000000 in
theorem kkY_writeOut {p : Program} {l : Launch} {e : Env} {R : Room} {s : State} {m : MethodId} {args : Array Value} {below : List Frame} {meth : Method} {c : Code} {cells slots : Nat} {Q : State → Prop} {A : Nat → Prop} {D : va_G} {nL pc : Nat} {cc : ByteArray} {cw : Cond} {own : String} {lv : List (Nat × Value)} {st : List Value} {G : G_} {a : L_} {r : S_} {kc : Nat} {ks : Nat} {F Lc : Nat} {K : Int32 → L_ → S_ → Prop} {p0 : Int32} (C : vx_C p s m args c cc nL (cw :: wAll) own D vwCl (tysG G) nwAll A) {i : Nat} (hl : Cond.methodLink own i yY_writeOut ∈ wAll) (hR : F + 1 ≤ R.frames ∧ 8 + (7 + 11) + Lc ≤ R.locals) (hst : (st.map fun v => v.category).sum ≤ 8) (hd : decode cc pc = .ok (.invokevirtual i, 3)) (hcs : cells + kc ≤ R.cells ∧ slots + ks ≤ R.slots) (h : vx_Mi l yY_writeOut (Cond.code yY_writeOut prog_7_method_12_code 7 (some .int) :: wAll) { frames := F, cells := kc, slots := ks, locals := Lc } D vwCl (tysG G) nwAll (wo G a r) [.ref (ob G 4), .int p0] kc ks (fun v w => ∃ a1 r1, w = wo G a1 r1 ∧ fx a a1 ∧ K v a1 r1)) (k : ∀ (v : Int32) (a1 : L_) (r1 : S_), fx a a1 → K v a1 r1 → vx_V p l e R s m args below meth c A D vwCl nL (cells + kc) (slots + ks) Q (wo G a1 r1) (pc + 3) lv (.int v :: st)) : vx_V p l e R s m args below meth c A D vwCl nL cells slots Q (wo G a r) pc lv (.int p0 :: .ref (ob G 4) :: st) := by
  refine x_callVi C (CC := "ClassInference$Typer") (ci := 4) (q0 := 4) (fs := fl4 G a r) (As := [.int p0]) rfl rfl h (cwV (C := "ClassInference$Typer") 1 C.1.2.2.2.2 (goodV hl wm582 wp25 wm6 wm583) rfl rfl rfl (by decide +kernel) hR) rfl hst hd hcs (fun v w hw => ?_)
  obtain ⟨a1, r1, rfl, hf9, h⟩ := hw
  exact k v a1 r1 hf9 h
def qY_writeOut_B_J113 (T : (Int32 → L_ → S_ → Prop) → L_ → S_ → Nat → Nat → Int32 → Prop) (K : Int32 → L_ → S_ → Prop) (a : L_) (r : S_) (kc : Nat) (ks : Nat) (v2 : Int32) (v5 : Int32) (u0 : Int32) : Prop :=
  ∃ k24 s26 k25 s27 : Nat, k24 + k25 = kc ∧ s26 + s27 = ks ∧ qG_newNode (fun z21 a23 r22 => fx a a23 → K z21 a23 r22) a r k24 s26 v2 v5 u0
set_option maxRecDepth 100000 in
set_option maxHeartbeats 4000000 in
theorem tY_writeOut_B_J113 (C : vx_C p s m args c prog_7_method_12_code 7 (Cond.code yY_writeOut prog_7_method_12_code 7 (some .int) :: wAll) "ClassInference$Typer" D vwCl (tysG G) nwAll A) (hA : A = va_A ws0 s.heap.size) (hlocks : meth.locks = false) (hr : meth.sig.returnType = (some .int)) {T : (Int32 → L_ → S_ → Prop) → L_ → S_ → Nat → Nat → Int32 → Prop} {d : Nat} (hT : ∀ (K : Int32 → L_ → S_ → Prop) (a : L_) (r : S_) (kc ks : Nat) (p0 : Int32), T K a r kc ks p0 → vx_Mi l yY_writeOut (Cond.code yY_writeOut prog_7_method_12_code 7 (some .int) :: wAll) { frames := 2 * d + 5, cells := kc, slots := ks, locals := 26 * d + 93 } D vwCl (tysG G) nwAll (wo G a r) [.ref (ob G 4), .int p0] kc ks (fun v w => ∃ a1 r1, w = wo G a1 r1 ∧ fx a a1 ∧ K v a1 r1)) {K : Int32 → L_ → S_ → Prop} (a : L_) (r : S_) (kc : Nat) (ks : Nat) (v2 : Int32) (v5 : Int32) (u0 : Int32) (u v : Nat) (hu : u + kc ≤ mc) (hv : v + ks ≤ ms) (hfa : fx a0 a) (h : qY_writeOut_B_J113 T K a r kc ks v2 v5 u0) : vx_V p l e { frames := 2 * (d + 1) + 5, cells := mc, slots := ms, locals := 26 * (d + 1) + 93 } s m args below meth c A D vwCl 7 u v (MQ below (va_Qi (fun v w => ∃ a1 r1, w = wo G a1 r1 ∧ fx a0 a1 ∧ K v a1 r1) (vx_B D vwCl (tysG G) A) A) args s mc ms A) (wo G a r) 113 [(0, .ref (ob G 4)), (2, .int v2), (5, .int v5)] [.int u0] := by
  unfold qY_writeOut_B_J113 at h
  refine x_istore C [(6, .int u0), (0, .ref (ob G 4)), (2, .int v2), (5, .int v5)] dY_writeOut_113 (by decide) rfl ?_
  refine x_aload_n C dY_writeOut_115 rfl 1 rfl ?_
  refine gf_4_3 C (List.mem_cons_of_mem _ wm203) dY_writeOut_116 ?_
  refine x_iload_n C dY_writeOut_119 rfl 2 rfl ?_
  refine x_iload C dY_writeOut_120 3 rfl ?_
  refine x_iload C dY_writeOut_122 0 rfl ?_
  obtain ⟨k24, s26, k25, s27, e28, e29, h⟩ := h
  have hu9 : u + k24 ≤ mc := by omega
  have hv9 : v + s26 ≤ ms := by omega
  refine kG_newNode C wm439 ⟨by show 3 + 1 ≤ 2 * (d + 1) + 5; omega, by show 8 + (4 + 11) + (70) ≤ 26 * (d + 1) + 93; omega⟩ (Nat.le_of_ble_eq_true rfl) dY_writeOut_124 ⟨hu9, hv9⟩ h (fun z21 a23 r22 hf9 h => ?_)
  have hu : (u + k24) + k25 ≤ mc := by omega
  have hv : (v + s26) + s27 ≤ ms := by omega
  have h := h hf9
  have hfa : fx a0 a23 := fx_trans hfa hf9
  refine x_widen (k1 := mc) (n1 := ms) (by omega) (by omega) ?_
  exact x_iret C hA hlocks hr ⟨a23, r22, rfl, hfa, h⟩ dY_writeOut_127
def qY_writeOut_B_J95 (T : (Int32 → L_ → S_ → Prop) → L_ → S_ → Nat → Nat → Int32 → Prop) (K : Int32 → L_ → S_ → Prop) (a : L_) (r : S_) (kc : Nat) (ks : Nat) (v2 : Int32) (v4 : Int32) (u0 : Int32) : Prop :=
  ((¬ v4 = (-1)) → ∃ k17 s19 k18 s20 : Nat, k17 + k18 = kc ∧ s19 + s20 = ks ∧ T (fun z14 a16 r15 => fx a a16 → qY_writeOut_B_J113 T K a16 r15 k18 s20 v2 u0 z14) a r k17 s19 v4) ∧ ((v4 = (-1)) → qY_writeOut_B_J113 T K a r kc ks v2 u0 (-1))
set_option maxRecDepth 100000 in
set_option maxHeartbeats 4000000 in
theorem tY_writeOut_B_J95 (C : vx_C p s m args c prog_7_method_12_code 7 (Cond.code yY_writeOut prog_7_method_12_code 7 (some .int) :: wAll) "ClassInference$Typer" D vwCl (tysG G) nwAll A) (hA : A = va_A ws0 s.heap.size) (hlocks : meth.locks = false) (hr : meth.sig.returnType = (some .int)) {T : (Int32 → L_ → S_ → Prop) → L_ → S_ → Nat → Nat → Int32 → Prop} {d : Nat} (hT : ∀ (K : Int32 → L_ → S_ → Prop) (a : L_) (r : S_) (kc ks : Nat) (p0 : Int32), T K a r kc ks p0 → vx_Mi l yY_writeOut (Cond.code yY_writeOut prog_7_method_12_code 7 (some .int) :: wAll) { frames := 2 * d + 5, cells := kc, slots := ks, locals := 26 * d + 93 } D vwCl (tysG G) nwAll (wo G a r) [.ref (ob G 4), .int p0] kc ks (fun v w => ∃ a1 r1, w = wo G a1 r1 ∧ fx a a1 ∧ K v a1 r1)) {K : Int32 → L_ → S_ → Prop} (a : L_) (r : S_) (kc : Nat) (ks : Nat) (v2 : Int32) (v4 : Int32) (u0 : Int32) (u v : Nat) (hu : u + kc ≤ mc) (hv : v + ks ≤ ms) (hfa : fx a0 a) (h : qY_writeOut_B_J95 T K a r kc ks v2 v4 u0) : vx_V p l e { frames := 2 * (d + 1) + 5, cells := mc, slots := ms, locals := 26 * (d + 1) + 93 } s m args below meth c A D vwCl 7 u v (MQ below (va_Qi (fun v w => ∃ a1 r1, w = wo G a1 r1 ∧ fx a0 a1 ∧ K v a1 r1) (vx_B D vwCl (tysG G) A) A) args s mc ms A) (wo G a r) 95 [(0, .ref (ob G 4)), (2, .int v2), (4, .int v4)] [.int u0] := by
  unfold qY_writeOut_B_J95 at h
  refine x_istore C [(5, .int u0), (0, .ref (ob G 4)), (2, .int v2), (4, .int v4)] dY_writeOut_95 (by decide) rfl ?_
  refine x_iload C dY_writeOut_97 3 rfl ?_
  refine x_iconst (v := (-1)) C dY_writeOut_99 (by decide) ?_
  refine x_icmp_ne (tgt := 107) C dY_writeOut_100 (by decide) (fun g13 => ?_) (fun g13 => ?_)
  · have h := h.1 g13
    refine x_aload_n C dY_writeOut_107 rfl 1 rfl ?_
    refine x_iload C dY_writeOut_108 3 rfl ?_
    obtain ⟨k17, s19, k18, s20, e30, e31, h⟩ := h
    have hu9 : u + k17 ≤ mc := by omega
    have hv9 : v + s19 ≤ ms := by omega
    refine kkY_writeOut C wm580 ⟨by show 2 * d + 5 + 1 ≤ 2 * (d + 1) + 5; omega, by show 8 + (7 + 11) + (26 * d + 93) ≤ 26 * (d + 1) + 93; omega⟩ (Nat.le_of_ble_eq_true rfl) dY_writeOut_110 ⟨hu9, hv9⟩ (hT _ a r k17 s19 v4 h) (fun z14 a16 r15 hf9 h => ?_)
    have hu : (u + k17) + k18 ≤ mc := by omega
    have hv : (v + s19) + s20 ≤ ms := by omega
    have h := h hf9
    have hfa : fx a0 a16 := fx_trans hfa hf9
    refine x_sub [1, 2, 0] rfl ?_
    exact tY_writeOut_B_J113 C hA hlocks hr hT a16 r15 k18 s20 v2 u0 z14 _ _ hu hv hfa h
  · have h := h.2 g13
    refine x_iconst (v := (-1)) C dY_writeOut_103 (by decide) ?_
    refine x_goto (tgt := 113) C dY_writeOut_104 (by decide) ?_
    refine x_sub [1, 2, 0] rfl ?_
    exact tY_writeOut_B_J113 C hA hlocks hr hT a r kc ks v2 u0 (-1) _ _ hu hv hfa h
def qY_writeOut_B_J52 (T : (Int32 → L_ → S_ → Prop) → L_ → S_ → Nat → Nat → Int32 → Prop) (K : Int32 → L_ → S_ → Prop) (a : L_) (r : S_) (kc : Nat) (ks : Nat) (v3 : Int32) (u0 : Int32) (u1 : Int32) : Prop :=
  vp_in u1 (ln a 20) ∧ ∀ r38 : S_, r38 = sA r 20 (upd (ar r 20) u1.toNatClampNeg u0) → vp_in v3 (ln a 20) ∧ K (ar r38 20 v3.toNatClampNeg) a r38
set_option maxRecDepth 100000 in
set_option maxHeartbeats 4000000 in
theorem tY_writeOut_B_J52 (C : vx_C p s m args c prog_7_method_12_code 7 (Cond.code yY_writeOut prog_7_method_12_code 7 (some .int) :: wAll) "ClassInference$Typer" D vwCl (tysG G) nwAll A) (hA : A = va_A ws0 s.heap.size) (hlocks : meth.locks = false) (hr : meth.sig.returnType = (some .int)) {T : (Int32 → L_ → S_ → Prop) → L_ → S_ → Nat → Nat → Int32 → Prop} {d : Nat} (hT : ∀ (K : Int32 → L_ → S_ → Prop) (a : L_) (r : S_) (kc ks : Nat) (p0 : Int32), T K a r kc ks p0 → vx_Mi l yY_writeOut (Cond.code yY_writeOut prog_7_method_12_code 7 (some .int) :: wAll) { frames := 2 * d + 5, cells := kc, slots := ks, locals := 26 * d + 93 } D vwCl (tysG G) nwAll (wo G a r) [.ref (ob G 4), .int p0] kc ks (fun v w => ∃ a1 r1, w = wo G a1 r1 ∧ fx a a1 ∧ K v a1 r1)) {K : Int32 → L_ → S_ → Prop} (a : L_) (r : S_) (kc : Nat) (ks : Nat) (v3 : Int32) (u0 : Int32) (u1 : Int32) (u v : Nat) (hu : u + kc ≤ mc) (hv : v + ks ≤ ms) (hfa : fx a0 a) (h : qY_writeOut_B_J52 T K a r kc ks v3 u0 u1) : vx_V p l e { frames := 2 * (d + 1) + 5, cells := mc, slots := ms, locals := 26 * (d + 1) + 93 } s m args below meth c A D vwCl 7 u v (MQ below (va_Qi (fun v w => ∃ a1 r1, w = wo G a1 r1 ∧ fx a0 a1 ∧ K v a1 r1) (vx_B D vwCl (tysG G) A) A) args s mc ms A) (wo G a r) 52 [(0, .ref (ob G 4)), (3, .int v3)] [.int u0, .int u1, .ref (ad a 20)] := by
  unfold qY_writeOut_B_J52 at h
  obtain ⟨g37, h⟩ := h
  refine y_is C 20 (by decide) g37 dY_writeOut_52 (fun r38 er38 => ?_)
  have h := h r38 er38
  refine x_aload_n C dY_writeOut_53 rfl 0 rfl ?_
  refine gf_4_8 C (List.mem_cons_of_mem _ wm208) dY_writeOut_54 ?_
  refine x_iload_n C dY_writeOut_57 rfl 1 rfl ?_
  obtain ⟨g39, h⟩ := h
  refine y_ia C 20 (by decide) g39 dY_writeOut_58 ?_
  refine x_widen (k1 := mc) (n1 := ms) (by omega) (by omega) ?_
  exact x_iret C hA hlocks hr ⟨a, r38, rfl, hfa, h⟩ dY_writeOut_59
def qY_writeOut_B (T : (Int32 → L_ → S_ → Prop) → L_ → S_ → Nat → Nat → Int32 → Prop) (K : Int32 → L_ → S_ → Prop) (a0 : L_) (r : S_) (kc0 : Nat) (ks0 : Nat) (p0 : Int32) : Prop :=
  vp_in p0 (ln a0 1) ∧ ((0 ≤ (ar r 1 p0.toNatClampNeg)) → vp_in p0 (ln a0 2) ∧ vp_in p0 (ln a0 3) ∧ ((¬ (ar r 2 p0.toNatClampNeg) = (-1)) → ∃ k9 s11 k10 s12 : Nat, k9 + k10 = kc0 ∧ s11 + s12 = ks0 ∧ T (fun z6 a8 r7 => fx a0 a8 → qY_writeOut_B_J95 T K a8 r7 k10 s12 (ar r 1 p0.toNatClampNeg) (ar r 3 p0.toNatClampNeg) z6) a0 r k9 s11 (ar r 2 p0.toNatClampNeg)) ∧ (((ar r 2 p0.toNatClampNeg) = (-1)) → qY_writeOut_B_J95 T K a0 r kc0 ks0 (ar r 1 p0.toNatClampNeg) (ar r 3 p0.toNatClampNeg) (-1))) ∧ ((¬ 0 ≤ (ar r 1 p0.toNatClampNeg)) → vp_in ((-1) - (ar r 1 p0.toNatClampNeg)) (ln a0 20) ∧ ((¬ (ar r 20 ((-1) - (ar r 1 p0.toNatClampNeg)).toNatClampNeg) = (-1)) → vp_in ((-1) - (ar r 1 p0.toNatClampNeg)) (ln a0 20) ∧ qY_writeOut_B_J52 T K a0 r kc0 ks0 ((-1) - (ar r 1 p0.toNatClampNeg)) (ar r 20 ((-1) - (ar r 1 p0.toNatClampNeg)).toNatClampNeg) ((-1) - (ar r 1 p0.toNatClampNeg))) ∧ (((ar r 20 ((-1) - (ar r 1 p0.toNatClampNeg)).toNatClampNeg) = (-1)) → ∃ k43 s45 k44 s46 : Nat, k43 + k44 = kc0 ∧ s45 + s46 = ks0 ∧ qG_newNode (fun z40 a42 r41 => fx a0 a42 → qY_writeOut_B_J52 T K a42 r41 k44 s46 ((-1) - (ar r 1 p0.toNatClampNeg)) z40 ((-1) - (ar r 1 p0.toNatClampNeg))) a0 r k43 s45 (-1) (-1) (-1)))
set_option maxRecDepth 100000 in
set_option maxHeartbeats 4000000 in
theorem cY_writeOut_B {T : (Int32 → L_ → S_ → Prop) → L_ → S_ → Nat → Nat → Int32 → Prop} {a0 : L_} {r : S_} {kc0 : Nat} {ks0 : Nat} {K : Int32 → L_ → S_ → Prop} {d : Nat} (hT : ∀ (K : Int32 → L_ → S_ → Prop) (a : L_) (r : S_) (kc ks : Nat) (p0 : Int32), T K a r kc ks p0 → vx_Mi l yY_writeOut (Cond.code yY_writeOut prog_7_method_12_code 7 (some .int) :: wAll) { frames := 2 * d + 5, cells := kc, slots := ks, locals := 26 * d + 93 } D vwCl (tysG G) nwAll (wo G a r) [.ref (ob G 4), .int p0] kc ks (fun v w => ∃ a1 r1, w = wo G a1 r1 ∧ fx a a1 ∧ K v a1 r1)) (p0 : Int32) (h : qY_writeOut_B T K a0 r kc0 ks0 p0) : vx_Mi l yY_writeOut (Cond.code yY_writeOut prog_7_method_12_code 7 (some .int) :: wAll) { frames := 2 * (d + 1) + 5, cells := kc0, slots := ks0, locals := 26 * (d + 1) + 93 } D vwCl (tysG G) nwAll (wo G a0 r) [.ref (ob G 4), .int p0] kc0 ks0 (fun v w => ∃ a1 r1, w = wo G a1 r1 ∧ fx a0 a1 ∧ K v a1 r1) := by
  unfold qY_writeOut_B at h
  refine x_meti (cc := prog_7_method_12_code) (maxL := 7) (ret := (some .int)) (lv0 := [(0, .ref (ob G 4)), (1, .int p0)]) (by decide) rfl (Nat.le_of_ble_eq_true rfl) rfl ?_
  intro p e s m args below meth c A C hA hlocks hr
  have hu : 0 + kc0 ≤ kc0 := by omega
  have hv : 0 + ks0 ≤ ks0 := by omega
  have hfa : fx a0 a0 := fx_refl _
  refine x_aload_n C dY_writeOut_0 rfl 0 rfl ?_
  refine gf_4_0 C (List.mem_cons_of_mem _ wm200) dY_writeOut_1 ?_
  refine gn_1_2 C wn30 dY_writeOut_4 ?_
  refine x_iload_n C dY_writeOut_7 rfl 1 rfl ?_
  obtain ⟨g1, h⟩ := h
  refine y_ia C 1 (by decide) g1 dY_writeOut_8 ?_
  refine x_istore_n C [(2, .int (ar r 1 p0.toNatClampNeg)), (0, .ref (ob G 4)), (1, .int p0)] dY_writeOut_9 rfl (by decide) rfl ?_
  refine x_iload_n C dY_writeOut_10 rfl 0 rfl ?_
  refine x_if_ge (tgt := 60) C dY_writeOut_11 (by decide) (fun g2 => ?_) (fun g2 => ?_)
  · have h := h.1 g2
    refine x_aload_n C dY_writeOut_60 rfl 1 rfl ?_
    refine gf_4_0 C (List.mem_cons_of_mem _ wm200) dY_writeOut_61 ?_
    refine gn_1_3 C wn33 dY_writeOut_64 ?_
    refine x_iload_n C dY_writeOut_67 rfl 2 rfl ?_
    obtain ⟨g3, h⟩ := h
    refine y_ia C 2 (by decide) g3 dY_writeOut_68 ?_
    refine x_istore_n C [(3, .int (ar r 2 p0.toNatClampNeg)), (2, .int (ar r 1 p0.toNatClampNeg)), (0, .ref (ob G 4)), (1, .int p0)] dY_writeOut_69 rfl (by decide) rfl ?_
    refine x_aload_n C dY_writeOut_70 rfl 2 rfl ?_
    refine gf_4_0 C (List.mem_cons_of_mem _ wm200) dY_writeOut_71 ?_
    refine gn_1_4 C wn36 dY_writeOut_74 ?_
    refine x_iload_n C dY_writeOut_77 rfl 3 rfl ?_
    obtain ⟨g4, h⟩ := h
    refine y_ia C 3 (by decide) g4 dY_writeOut_78 ?_
    refine x_istore C [(4, .int (ar r 3 p0.toNatClampNeg)), (3, .int (ar r 2 p0.toNatClampNeg)), (2, .int (ar r 1 p0.toNatClampNeg)), (0, .ref (ob G 4)), (1, .int p0)] dY_writeOut_79 (by decide) rfl ?_
    refine x_iload_n C dY_writeOut_81 rfl 1 rfl ?_
    refine x_iconst (v := (-1)) C dY_writeOut_82 (by decide) ?_
    refine x_icmp_ne (tgt := 90) C dY_writeOut_83 (by decide) (fun g5 => ?_) (fun g5 => ?_)
    · have h := h.1 g5
      refine x_aload_n C dY_writeOut_90 rfl 3 rfl ?_
      refine x_iload_n C dY_writeOut_91 rfl 1 rfl ?_
      obtain ⟨k9, s11, k10, s12, e32, e33, h⟩ := h
      have hu9 : 0 + k9 ≤ kc0 := by omega
      have hv9 : 0 + s11 ≤ ks0 := by omega
      refine kkY_writeOut C wm580 ⟨by show 2 * d + 5 + 1 ≤ 2 * (d + 1) + 5; omega, by show 8 + (7 + 11) + (26 * d + 93) ≤ 26 * (d + 1) + 93; omega⟩ (Nat.le_of_ble_eq_true rfl) dY_writeOut_92 ⟨hu9, hv9⟩ (hT _ a0 r k9 s11 (ar r 2 p0.toNatClampNeg) h) (fun z6 a8 r7 hf9 h => ?_)
      have hu : (0 + k9) + k10 ≤ kc0 := by omega
      have hv : (0 + s11) + s12 ≤ ks0 := by omega
      have h := h hf9
      have hfa : fx a0 a8 := fx_trans hfa hf9
      refine x_sub [3, 2, 0] rfl ?_
      exact tY_writeOut_B_J95 C hA hlocks hr hT a8 r7 k10 s12 (ar r 1 p0.toNatClampNeg) (ar r 3 p0.toNatClampNeg) z6 _ _ hu hv hfa h
    · have h := h.2 g5
      refine x_iconst (v := (-1)) C dY_writeOut_86 (by decide) ?_
      refine x_goto (tgt := 95) C dY_writeOut_87 (by decide) ?_
      refine x_sub [3, 2, 0] rfl ?_
      exact tY_writeOut_B_J95 C hA hlocks hr hT a0 r kc0 ks0 (ar r 1 p0.toNatClampNeg) (ar r 3 p0.toNatClampNeg) (-1) _ _ hu hv hfa h
  · have h := h.2 g2
    refine x_iconst (v := (-1)) C dY_writeOut_14 (by decide) ?_
    refine x_iload_n C dY_writeOut_15 rfl 0 rfl ?_
    refine x_isub C dY_writeOut_16 ?_
    refine x_istore_n C [(3, .int ((-1) - (ar r 1 p0.toNatClampNeg))), (2, .int (ar r 1 p0.toNatClampNeg)), (0, .ref (ob G 4)), (1, .int p0)] dY_writeOut_17 rfl (by decide) rfl ?_
    refine x_aload_n C dY_writeOut_18 rfl 2 rfl ?_
    refine gf_4_8 C (List.mem_cons_of_mem _ wm208) dY_writeOut_19 ?_
    refine x_iload_n C dY_writeOut_22 rfl 0 rfl ?_
    refine x_aload_n C dY_writeOut_23 rfl 2 rfl ?_
    refine gf_4_8 C (List.mem_cons_of_mem _ wm208) dY_writeOut_24 ?_
    refine x_iload_n C dY_writeOut_27 rfl 0 rfl ?_
    obtain ⟨g34, h⟩ := h
    refine y_ia C 20 (by decide) g34 dY_writeOut_28 ?_
    refine x_iconst (v := (-1)) C dY_writeOut_29 (by decide) ?_
    refine x_icmp_ne (tgt := 46) C dY_writeOut_30 (by decide) (fun g35 => ?_) (fun g35 => ?_)
    · have h := h.1 g35
      refine x_aload_n C dY_writeOut_46 rfl 2 rfl ?_
      refine gf_4_8 C (List.mem_cons_of_mem _ wm208) dY_writeOut_47 ?_
      refine x_iload_n C dY_writeOut_50 rfl 0 rfl ?_
      obtain ⟨g36, h⟩ := h
      refine y_ia C 20 (by decide) g36 dY_writeOut_51 ?_
      refine x_sub [2, 0] rfl ?_
      exact tY_writeOut_B_J52 C hA hlocks hr hT a0 r kc0 ks0 ((-1) - (ar r 1 p0.toNatClampNeg)) (ar r 20 ((-1) - (ar r 1 p0.toNatClampNeg)).toNatClampNeg) ((-1) - (ar r 1 p0.toNatClampNeg)) _ _ hu hv hfa h
    · have h := h.2 g35
      refine x_aload_n C dY_writeOut_33 rfl 2 rfl ?_
      refine gf_4_3 C (List.mem_cons_of_mem _ wm203) dY_writeOut_34 ?_
      refine x_iconst (v := (-1)) C dY_writeOut_37 (by decide) ?_
      refine x_iconst (v := (-1)) C dY_writeOut_38 (by decide) ?_
      refine x_iconst (v := (-1)) C dY_writeOut_39 (by decide) ?_
      obtain ⟨k43, s45, k44, s46, e47, e48, h⟩ := h
      have hu9 : 0 + k43 ≤ kc0 := by omega
      have hv9 : 0 + s45 ≤ ks0 := by omega
      refine kG_newNode C wm439 ⟨by show 3 + 1 ≤ 2 * (d + 1) + 5; omega, by show 8 + (4 + 11) + (70) ≤ 26 * (d + 1) + 93; omega⟩ (Nat.le_of_ble_eq_true rfl) dY_writeOut_40 ⟨hu9, hv9⟩ h (fun z40 a42 r41 hf9 h => ?_)
      have hu : (0 + k43) + k44 ≤ kc0 := by omega
      have hv : (0 + s45) + s46 ≤ ks0 := by omega
      have h := h hf9
      have hfa : fx a0 a42 := fx_trans hfa hf9
      refine x_steq [.int z40, .int ((-1) - (ar r 1 p0.toNatClampNeg)), .ref (ad a42 20)] (by have e20 := (hf9 20 (by decide)).1; unfold ad; rw [e20]) ?_
      refine x_goto (tgt := 52) C dY_writeOut_43 (by decide) ?_
      refine x_sub [2, 0] rfl ?_
      exact tY_writeOut_B_J52 C hA hlocks hr hT a42 r41 k44 s46 ((-1) - (ar r 1 p0.toNatClampNeg)) z40 ((-1) - (ar r 1 p0.toNatClampNeg)) _ _ hu hv hfa h
def qY_writeOut : Nat → (Int32 → L_ → S_ → Prop) → L_ → S_ → Nat → Nat → Int32 → Prop
  | 0, _, _, _, _, _, _ => False
  | d + 1, K, a, r, kc, ks, p0 => qY_writeOut_B (qY_writeOut d) K a r kc ks p0
set_option maxRecDepth 100000 in
set_option maxHeartbeats 4000000 in
theorem rY_writeOut : ∀ d : Nat, ∀ (K : Int32 → L_ → S_ → Prop) (a : L_) (r : S_) (kc ks : Nat) (p0 : Int32), qY_writeOut d K a r kc ks p0 → vx_Mi l yY_writeOut (Cond.code yY_writeOut prog_7_method_12_code 7 (some .int) :: wAll) { frames := 2 * d + 5, cells := kc, slots := ks, locals := 26 * d + 93 } D vwCl (tysG G) nwAll (wo G a r) [.ref (ob G 4), .int p0] kc ks (fun v w => ∃ a1 r1, w = wo G a1 r1 ∧ fx a a1 ∧ K v a1 r1) := by
  intro d
  induction d with
  | zero =>
    intro K a r kc ks p0 h
    rw [qY_writeOut] at h
    exact h.elim
  | succ d ih =>
    intro K a r kc ks p0 h
    rw [qY_writeOut] at h
    exact cY_writeOut_B ih p0 h
set_option maxRecDepth 100000 in
set_option maxHeartbeats 4000000 in
theorem kY_writeOut {p : Program} {l : Launch} {e : Env} {R : Room} {s : State} {m : MethodId} {args : Array Value} {below : List Frame} {meth : Method} {c : Code} {cells slots : Nat} {Q : State → Prop} {A : Nat → Prop} {D : va_G} {nL pc : Nat} {cc : ByteArray} {cw : Cond} {own : String} {lv : List (Nat × Value)} {st : List Value} {G : G_} {a : L_} {r : S_} {kc : Nat} {ks : Nat} {d : Nat} {K : Int32 → L_ → S_ → Prop} {p0 : Int32} (C : vx_C p s m args c cc nL (cw :: wAll) own D vwCl (tysG G) nwAll A) {i : Nat} (hl : Cond.methodLink own i yY_writeOut ∈ wAll) (hR : (2 * d + 5) + 1 ≤ R.frames ∧ 8 + (7 + 11) + (26 * d + 93) ≤ R.locals) (hst : (st.map fun v => v.category).sum ≤ 8) (hd : decode cc pc = .ok (.invokevirtual i, 3)) (hcs : cells + kc ≤ R.cells ∧ slots + ks ≤ R.slots) (h : qY_writeOut d K a r kc ks p0) (k : ∀ (v : Int32) (a1 : L_) (r1 : S_), fx a a1 → K v a1 r1 → vx_V p l e R s m args below meth c A D vwCl nL (cells + kc) (slots + ks) Q (wo G a1 r1) (pc + 3) lv (.int v :: st)) : vx_V p l e R s m args below meth c A D vwCl nL cells slots Q (wo G a r) pc lv (.int p0 :: .ref (ob G 4) :: st) := by
  refine x_callVi C (CC := "ClassInference$Typer") (ci := 4) (q0 := 4) (fs := fl4 G a r) (As := [.int p0]) rfl rfl (rY_writeOut d K a r kc ks p0 h) (cwV (C := "ClassInference$Typer") 1 C.1.2.2.2.2 (goodV hl wm582 wp25 wm6 wm583) rfl rfl rfl (by decide +kernel) hR) rfl hst hd hcs (fun v w hw => ?_)
  obtain ⟨a1, r1, rfl, hf9, h⟩ := hw
  exact k v a1 r1 hf9 h
def qY_freshCopy (K : Int32 → L_ → S_ → Prop) (a0 : L_) (r : S_) (kc0 : Nat) (ks0 : Nat) (p0 : Int32) : Prop :=
  qJ_fill a0 20 (fun r1 => ∃ k5 s7 k6 s8 : Nat, k5 + k6 = kc0 ∧ s7 + s8 = ks0 ∧ qY_writeOut 18 (fun z2 a4 r3 => fx a0 a4 → K z2 a4 r3) a0 r1 k5 s7 p0) r (-1)
set_option maxRecDepth 100000 in
set_option maxHeartbeats 4000000 in
theorem cY_freshCopy {a0 : L_} {r : S_} {kc0 : Nat} {ks0 : Nat} {K : Int32 → L_ → S_ → Prop} (p0 : Int32) (h : qY_freshCopy K a0 r kc0 ks0 p0) : vx_Mi l yY_freshCopy (Cond.code yY_freshCopy prog_7_method_11_code 2 (some .int) :: wAll) { frames := 42, cells := kc0, slots := ks0, locals := 587 } D vwCl (tysG G) nwAll (wo G a0 r) [.ref (ob G 4), .int p0] kc0 ks0 (fun v w => ∃ a1 r1, w = wo G a1 r1 ∧ fx a0 a1 ∧ K v a1 r1) := by
  unfold qY_freshCopy at h
  refine x_meti (cc := prog_7_method_11_code) (maxL := 2) (ret := (some .int)) (lv0 := [(0, .ref (ob G 4)), (1, .int p0)]) (by decide) rfl (Nat.le_of_ble_eq_true rfl) rfl ?_
  intro p e s m args below meth c A C hA hlocks hr
  have hu : 0 + kc0 ≤ kc0 := by omega
  have hv : 0 + ks0 ≤ ks0 := by omega
  have hfa : fx a0 a0 := fx_refl _
  refine x_aload_n C dY_freshCopy_0 rfl 0 rfl ?_
  refine gf_4_8 C (List.mem_cons_of_mem _ wm208) dY_freshCopy_1 ?_
  refine x_iconst (v := (-1)) C dY_freshCopy_4 (by decide) ?_
  refine kJ_fill C (by decide) wm579 ⟨Nat.le_of_ble_eq_true rfl, Nat.le_of_ble_eq_true rfl⟩ (Nat.le_of_ble_eq_true rfl) dY_freshCopy_5 ⟨Nat.le_trans (Nat.le_add_right _ _) hu, Nat.le_trans (Nat.le_add_right _ _) hv⟩ h (fun r1 h => ?_)
  refine x_aload_n C dY_freshCopy_8 rfl 0 rfl ?_
  refine x_iload_n C dY_freshCopy_9 rfl 1 rfl ?_
  obtain ⟨k5, s7, k6, s8, e9, e10, h⟩ := h
  have hu9 : 0 + k5 ≤ kc0 := by omega
  have hv9 : 0 + s7 ≤ ks0 := by omega
  refine kY_writeOut (d := 18) C wm580 ⟨Nat.le_of_ble_eq_true rfl, Nat.le_of_ble_eq_true rfl⟩ (Nat.le_of_ble_eq_true rfl) dY_freshCopy_10 ⟨hu9, hv9⟩ h (fun z2 a4 r3 hf9 h => ?_)
  have hu : (0 + k5) + k6 ≤ kc0 := by omega
  have hv : (0 + s7) + s8 ≤ ks0 := by omega
  have h := h hf9
  have hfa : fx a0 a4 := fx_trans hfa hf9
  refine x_widen (k1 := kc0) (n1 := ks0) (by omega) (by omega) ?_
  exact x_iret C hA hlocks hr ⟨a4, r3, rfl, hfa, h⟩ dY_freshCopy_13
set_option maxRecDepth 100000 in
set_option maxHeartbeats 4000000 in
theorem kY_freshCopy {p : Program} {l : Launch} {e : Env} {R : Room} {s : State} {m : MethodId} {args : Array Value} {below : List Frame} {meth : Method} {c : Code} {cells slots : Nat} {Q : State → Prop} {A : Nat → Prop} {D : va_G} {nL pc : Nat} {cc : ByteArray} {cw : Cond} {own : String} {lv : List (Nat × Value)} {st : List Value} {G : G_} {a : L_} {r : S_} {kc : Nat} {ks : Nat} {K : Int32 → L_ → S_ → Prop} {p0 : Int32} (C : vx_C p s m args c cc nL (cw :: wAll) own D vwCl (tysG G) nwAll A) {i : Nat} (hl : Cond.methodLink own i yY_freshCopy ∈ wAll) (hR : 42 + 1 ≤ R.frames ∧ 8 + (2 + 11) + 587 ≤ R.locals) (hst : (st.map fun v => v.category).sum ≤ 8) (hd : decode cc pc = .ok (.invokevirtual i, 3)) (hcs : cells + kc ≤ R.cells ∧ slots + ks ≤ R.slots) (h : qY_freshCopy K a r kc ks p0) (k : ∀ (v : Int32) (a1 : L_) (r1 : S_), fx a a1 → K v a1 r1 → vx_V p l e R s m args below meth c A D vwCl nL (cells + kc) (slots + ks) Q (wo G a1 r1) (pc + 3) lv (.int v :: st)) : vx_V p l e R s m args below meth c A D vwCl nL cells slots Q (wo G a r) pc lv (.int p0 :: .ref (ob G 4) :: st) := by
  refine x_callVi C (CC := "ClassInference$Typer") (ci := 4) (q0 := 4) (fs := fl4 G a r) (As := [.int p0]) rfl rfl (cY_freshCopy p0 h) (cwV (C := "ClassInference$Typer") 1 C.1.2.2.2.2 (goodV hl wm577 wp24 wm6 wm578) rfl rfl rfl (by decide +kernel) hR) rfl hst hd hcs (fun v w hw => ?_)
  obtain ⟨a1, r1, rfl, hf9, h⟩ := hw
  exact k v a1 r1 hf9 h
def qY_typeOfMethod_J43 (K : Int32 → L_ → S_ → Prop) (a : L_) (r : S_) (kc : Nat) (ks : Nat) (v2 : Int32) : Prop :=
  ∀ r11 : S_, r11 = sF r 8 ((fi r 8) + 1) → K v2 a r11
set_option maxRecDepth 100000 in
set_option maxHeartbeats 4000000 in
theorem tY_typeOfMethod_J43 (C : vx_C p s m args c prog_7_method_8_code 3 (Cond.code yY_typeOfMethod prog_7_method_8_code 3 (some .int) :: wAll) "ClassInference$Typer" D vwCl (tysG G) nwAll A) (hA : A = va_A ws0 s.heap.size) (hlocks : meth.locks = false) (hr : meth.sig.returnType = (some .int)) {K : Int32 → L_ → S_ → Prop} (a : L_) (r : S_) (kc : Nat) (ks : Nat) (v2 : Int32) (u v : Nat) (hu : u + kc ≤ mc) (hv : v + ks ≤ ms) (hfa : fx a0 a) (h : qY_typeOfMethod_J43 K a r kc ks v2) : vx_V p l e { frames := 43, cells := mc, slots := ms, locals := 608 } s m args below meth c A D vwCl 3 u v (MQ below (va_Qi (fun v w => ∃ a1 r1, w = wo G a1 r1 ∧ fx a0 a1 ∧ K v a1 r1) (vx_B D vwCl (tysG G) A) A) args s mc ms A) (wo G a r) 43 [(0, .ref (ob G 4)), (2, .int v2)] [] := by
  unfold qY_typeOfMethod_J43 at h
  refine x_aload_n C dY_typeOfMethod_43 rfl 0 rfl ?_
  refine x_dup C dY_typeOfMethod_44 rfl ?_
  refine gf_4_11 C (List.mem_cons_of_mem _ wm211) dY_typeOfMethod_45 ?_
  refine x_iconst (v := 1) C dY_typeOfMethod_48 (by decide) ?_
  refine x_iadd C dY_typeOfMethod_49 ?_
  refine pf_4_11 C (List.mem_cons_of_mem _ wm211) dY_typeOfMethod_50 (fun r11 er11 => ?_)
  have h := h r11 er11
  refine x_iload_n C dY_typeOfMethod_53 rfl 1 rfl ?_
  refine x_widen (k1 := mc) (n1 := ms) (by omega) (by omega) ?_
  exact x_iret C hA hlocks hr ⟨a, r11, rfl, hfa, h⟩ dY_typeOfMethod_54
def qY_typeOfMethod (K : Int32 → L_ → S_ → Prop) (a0 : L_) (r : S_) (kc0 : Nat) (ks0 : Nat) (p0 : Int32) : Prop :=
  qK_methodOf a0 r (fun z1 => ∃ k5 s7 k6 s8 : Nat, k5 + k6 = kc0 ∧ s7 + s8 = ks0 ∧ qY_freshCopy (fun z2 a4 r3 => fx a0 a4 → vp_in 0 (ln a4 20) ∧ (((ar r3 20 (0 : Int32).toNatClampNeg) = (-1)) → qY_typeOfMethod_J43 K a4 r3 k6 s8 z2) ∧ ((¬ (ar r3 20 (0 : Int32).toNatClampNeg) = (-1)) → vp_in 0 (ln a4 20) ∧ vp_in (ar r3 20 (0 : Int32).toNatClampNeg) (ln a4 24) ∧ vp_in (ar r3 20 (0 : Int32).toNatClampNeg) (ln a4 24) ∧ ∀ r15 : S_, r15 = sA r3 24 (upd (ar r3 24) (ar r3 20 (0 : Int32).toNatClampNeg).toNatClampNeg ((ar r3 24 (ar r3 20 (0 : Int32).toNatClampNeg).toNatClampNeg) ||| (1 <<< (p0 &&& 31)))) → qY_typeOfMethod_J43 K a4 r15 k6 s8 z2)) a0 r k5 s7 z1) p0
set_option maxRecDepth 100000 in
set_option maxHeartbeats 4000000 in
theorem cY_typeOfMethod {a0 : L_} {r : S_} {kc0 : Nat} {ks0 : Nat} {K : Int32 → L_ → S_ → Prop} (p0 : Int32) (h : qY_typeOfMethod K a0 r kc0 ks0 p0) : vx_Mi l yY_typeOfMethod (Cond.code yY_typeOfMethod prog_7_method_8_code 3 (some .int) :: wAll) { frames := 43, cells := kc0, slots := ks0, locals := 608 } D vwCl (tysG G) nwAll (wo G a0 r) [.ref (ob G 4), .int p0] kc0 ks0 (fun v w => ∃ a1 r1, w = wo G a1 r1 ∧ fx a0 a1 ∧ K v a1 r1) := by
  unfold qY_typeOfMethod at h
  refine x_meti (cc := prog_7_method_8_code) (maxL := 3) (ret := (some .int)) (lv0 := [(0, .ref (ob G 4)), (1, .int p0)]) (by decide) rfl (Nat.le_of_ble_eq_true rfl) rfl ?_
  intro p e s m args below meth c A C hA hlocks hr
  have hu : 0 + kc0 ≤ kc0 := by omega
  have hv : 0 + ks0 ≤ ks0 := by omega
  have hfa : fx a0 a0 := fx_refl _
  refine x_aload_n C dY_typeOfMethod_0 rfl 0 rfl ?_
  refine x_aload_n C dY_typeOfMethod_1 rfl 0 rfl ?_
  refine gf_4_1 C (List.mem_cons_of_mem _ wm201) dY_typeOfMethod_2 ?_
  refine x_iload_n C dY_typeOfMethod_5 rfl 1 rfl ?_
  refine kK_methodOf C wm574 ⟨Nat.le_of_ble_eq_true rfl, Nat.le_of_ble_eq_true rfl⟩ (Nat.le_of_ble_eq_true rfl) dY_typeOfMethod_6 ⟨Nat.le_trans (Nat.le_add_right _ _) hu, Nat.le_trans (Nat.le_add_right _ _) hv⟩ h (fun z1 h => ?_)
  obtain ⟨k5, s7, k6, s8, e16, e17, h⟩ := h
  have hu9 : 0 + k5 ≤ kc0 := by omega
  have hv9 : 0 + s7 ≤ ks0 := by omega
  refine kY_freshCopy C wm575 ⟨Nat.le_of_ble_eq_true rfl, Nat.le_of_ble_eq_true rfl⟩ (Nat.le_of_ble_eq_true rfl) dY_typeOfMethod_9 ⟨hu9, hv9⟩ h (fun z2 a4 r3 hf9 h => ?_)
  have hu : (0 + k5) + k6 ≤ kc0 := by omega
  have hv : (0 + s7) + s8 ≤ ks0 := by omega
  have h := h hf9
  have hfa : fx a0 a4 := fx_trans hfa hf9
  refine x_istore_n C [(2, .int z2), (0, .ref (ob G 4)), (1, .int p0)] dY_typeOfMethod_12 rfl (by decide) rfl ?_
  refine x_aload_n C dY_typeOfMethod_13 rfl 1 rfl ?_
  refine gf_4_8 C (List.mem_cons_of_mem _ wm208) dY_typeOfMethod_14 ?_
  refine x_iconst (v := 0) C dY_typeOfMethod_17 (by decide) ?_
  obtain ⟨g9, h⟩ := h
  refine y_ia C 20 (by decide) g9 dY_typeOfMethod_18 ?_
  refine x_iconst (v := (-1)) C dY_typeOfMethod_19 (by decide) ?_
  refine x_icmp_eq (tgt := 43) C dY_typeOfMethod_20 (by decide) (fun g10 => ?_) (fun g10 => ?_)
  · have h := h.1 g10
    refine x_sub [1, 0] rfl ?_
    exact tY_typeOfMethod_J43 C hA hlocks hr a4 r3 k6 s8 z2 _ _ hu hv hfa h
  · have h := h.2 g10
    refine x_aload_n C dY_typeOfMethod_23 rfl 1 rfl ?_
    refine gf_4_3 C (List.mem_cons_of_mem _ wm203) dY_typeOfMethod_24 ?_
    refine gn_5_3 C wn146 dY_typeOfMethod_27 ?_
    refine x_aload_n C dY_typeOfMethod_30 rfl 1 rfl ?_
    refine gf_4_8 C (List.mem_cons_of_mem _ wm208) dY_typeOfMethod_31 ?_
    refine x_iconst (v := 0) C dY_typeOfMethod_34 (by decide) ?_
    obtain ⟨g12, h⟩ := h
    refine y_ia C 20 (by decide) g12 dY_typeOfMethod_35 ?_
    refine x_dup2 C dY_typeOfMethod_36 rfl rfl ?_
    obtain ⟨g13, h⟩ := h
    refine y_ia C 24 (by decide) g13 dY_typeOfMethod_37 ?_
    refine x_iconst (v := 1) C dY_typeOfMethod_38 (by decide) ?_
    refine x_iload_n C dY_typeOfMethod_39 rfl 2 rfl ?_
    refine x_ishl C dY_typeOfMethod_40 ?_
    refine x_ior C dY_typeOfMethod_41 ?_
    obtain ⟨g14, h⟩ := h
    refine y_is C 24 (by decide) g14 dY_typeOfMethod_42 (fun r15 er15 => ?_)
    have h := h r15 er15
    refine x_sub [1, 0] rfl ?_
    exact tY_typeOfMethod_J43 C hA hlocks hr a4 r15 k6 s8 z2 _ _ hu hv hfa h
set_option maxRecDepth 100000 in
set_option maxHeartbeats 4000000 in
theorem kY_typeOfMethod {p : Program} {l : Launch} {e : Env} {R : Room} {s : State} {m : MethodId} {args : Array Value} {below : List Frame} {meth : Method} {c : Code} {cells slots : Nat} {Q : State → Prop} {A : Nat → Prop} {D : va_G} {nL pc : Nat} {cc : ByteArray} {cw : Cond} {own : String} {lv : List (Nat × Value)} {st : List Value} {G : G_} {a : L_} {r : S_} {kc : Nat} {ks : Nat} {K : Int32 → L_ → S_ → Prop} {p0 : Int32} (C : vx_C p s m args c cc nL (cw :: wAll) own D vwCl (tysG G) nwAll A) {i : Nat} (hl : Cond.methodLink own i yY_typeOfMethod ∈ wAll) (hR : 43 + 1 ≤ R.frames ∧ 8 + (3 + 11) + 608 ≤ R.locals) (hst : (st.map fun v => v.category).sum ≤ 8) (hd : decode cc pc = .ok (.invokevirtual i, 3)) (hcs : cells + kc ≤ R.cells ∧ slots + ks ≤ R.slots) (h : qY_typeOfMethod K a r kc ks p0) (k : ∀ (v : Int32) (a1 : L_) (r1 : S_), fx a a1 → K v a1 r1 → vx_V p l e R s m args below meth c A D vwCl nL (cells + kc) (slots + ks) Q (wo G a1 r1) (pc + 3) lv (.int v :: st)) : vx_V p l e R s m args below meth c A D vwCl nL cells slots Q (wo G a r) pc lv (.int p0 :: .ref (ob G 4) :: st) := by
  refine x_callVi C (CC := "ClassInference$Typer") (ci := 4) (q0 := 4) (fs := fl4 G a r) (As := [.int p0]) rfl rfl (cY_typeOfMethod p0 h) (cwV (C := "ClassInference$Typer") 1 C.1.2.2.2.2 (goodV hl wm572 wp23 wm6 wm573) rfl rfl rfl (by decide +kernel) hR) rfl hst hd hcs (fun v w hw => ?_)
  obtain ⟨a1, r1, rfl, hf9, h⟩ := hw
  exact k v a1 r1 hf9 h
set_option maxRecDepth 100000 in
set_option maxHeartbeats 4000000 in
theorem kkY_typeOf {p : Program} {l : Launch} {e : Env} {R : Room} {s : State} {m : MethodId} {args : Array Value} {below : List Frame} {meth : Method} {c : Code} {cells slots : Nat} {Q : State → Prop} {A : Nat → Prop} {D : va_G} {nL pc : Nat} {cc : ByteArray} {cw : Cond} {own : String} {lv : List (Nat × Value)} {st : List Value} {G : G_} {a : L_} {r : S_} {kc : Nat} {ks : Nat} {F Lc : Nat} {K : Int32 → L_ → S_ → Prop} {p0 : Int32} (C : vx_C p s m args c cc nL (cw :: wAll) own D vwCl (tysG G) nwAll A) {i : Nat} (hl : Cond.methodLink own i yY_typeOf ∈ wAll) (hR : F + 1 ≤ R.frames ∧ 8 + (4 + 11) + Lc ≤ R.locals) (hst : (st.map fun v => v.category).sum ≤ 8) (hd : decode cc pc = .ok (.invokevirtual i, 3)) (hcs : cells + kc ≤ R.cells ∧ slots + ks ≤ R.slots) (h : vx_Mi l yY_typeOf (Cond.code yY_typeOf prog_7_method_3_code 4 (some .int) :: wAll) { frames := F, cells := kc, slots := ks, locals := Lc } D vwCl (tysG G) nwAll (wo G a r) [.ref (ob G 4), .int p0] kc ks (fun v w => ∃ a1 r1, w = wo G a1 r1 ∧ fx a a1 ∧ K v a1 r1)) (k : ∀ (v : Int32) (a1 : L_) (r1 : S_), fx a a1 → K v a1 r1 → vx_V p l e R s m args below meth c A D vwCl nL (cells + kc) (slots + ks) Q (wo G a1 r1) (pc + 3) lv (.int v :: st)) : vx_V p l e R s m args below meth c A D vwCl nL cells slots Q (wo G a r) pc lv (.int p0 :: .ref (ob G 4) :: st) := by
  refine x_callVi C (CC := "ClassInference$Typer") (ci := 4) (q0 := 4) (fs := fl4 G a r) (As := [.int p0]) rfl rfl h (cwV (C := "ClassInference$Typer") 1 C.1.2.2.2.2 (goodV hl wm433 wp5 wm6 wm434) rfl rfl rfl (by decide +kernel) hR) rfl hst hd hcs (fun v w hw => ?_)
  obtain ⟨a1, r1, rfl, hf9, h⟩ := hw
  exact k v a1 r1 hf9 h
def qY_typeOfLambda (T : (Int32 → L_ → S_ → Prop) → L_ → S_ → Nat → Nat → Int32 → Prop) (K : Int32 → L_ → S_ → Prop) (a0 : L_) (r : S_) (kc0 : Nat) (ks0 : Nat) (p0 : Int32) (p1 : Int32) : Prop :=
  ∃ k4 s6 k5 s7 : Nat, k4 + k5 = kc0 ∧ s6 + s7 = ks0 ∧ qG_newNode (fun z1 a3 r2 => fx a0 a3 → qY_enter a3 (fun r8 => ∃ k12 s14 k13 s15 : Nat, k12 + k13 = k5 ∧ s14 + s15 = s7 ∧ T (fun z9 a11 r10 => fx a3 a11 → qY_leave a11 (fun r16 => ∃ k20 s22 k21 s23 : Nat, k20 + k21 = k13 ∧ s22 + s23 = s15 ∧ qG_newNode (fun z17 a19 r18 => fx a11 a19 → K z17 a19 r18) a11 r16 k20 s22 0 z1 z9) r10) a3 r8 k12 s14 p1) r2 p0 z1 (-1)) a0 r k4 s6 (-1) (-1) (-1)
set_option maxRecDepth 100000 in
set_option maxHeartbeats 4000000 in
theorem cY_typeOfLambda {T : (Int32 → L_ → S_ → Prop) → L_ → S_ → Nat → Nat → Int32 → Prop} {a0 : L_} {r : S_} {kc0 : Nat} {ks0 : Nat} {K : Int32 → L_ → S_ → Prop} {d : Nat} (hT : ∀ (K : Int32 → L_ → S_ → Prop) (a : L_) (r : S_) (kc ks : Nat) (p0 : Int32), T K a r kc ks p0 → vx_Mi l yY_typeOf (Cond.code yY_typeOf prog_7_method_3_code 4 (some .int) :: wAll) { frames := 2 * d + 45, cells := kc, slots := ks, locals := 98 * d + 630 } D vwCl (tysG G) nwAll (wo G a r) [.ref (ob G 4), .int p0] kc ks (fun v w => ∃ a1 r1, w = wo G a1 r1 ∧ fx a a1 ∧ K v a1 r1)) (p0 : Int32) (p1 : Int32) (h : qY_typeOfLambda T K a0 r kc0 ks0 p0 p1) : vx_Mi l yY_typeOfLambda (Cond.code yY_typeOfLambda prog_7_method_5_code 5 (some .int) :: wAll) { frames := 2 * d + 45 + 1, cells := kc0, slots := ks0, locals := 98 * d + 630 + 23 } D vwCl (tysG G) nwAll (wo G a0 r) [.ref (ob G 4), .int p0, .int p1] kc0 ks0 (fun v w => ∃ a1 r1, w = wo G a1 r1 ∧ fx a0 a1 ∧ K v a1 r1) := by
  unfold qY_typeOfLambda at h
  refine x_meti (cc := prog_7_method_5_code) (maxL := 5) (ret := (some .int)) (lv0 := [(0, .ref (ob G 4)), (1, .int p0), (2, .int p1)]) (by decide) rfl (Nat.le_of_ble_eq_true rfl) rfl ?_
  intro p e s m args below meth c A C hA hlocks hr
  have hu : 0 + kc0 ≤ kc0 := by omega
  have hv : 0 + ks0 ≤ ks0 := by omega
  have hfa : fx a0 a0 := fx_refl _
  refine x_aload_n C dY_typeOfLambda_0 rfl 0 rfl ?_
  refine gf_4_3 C (List.mem_cons_of_mem _ wm203) dY_typeOfLambda_1 ?_
  refine x_iconst (v := (-1)) C dY_typeOfLambda_4 (by decide) ?_
  refine x_iconst (v := (-1)) C dY_typeOfLambda_5 (by decide) ?_
  refine x_iconst (v := (-1)) C dY_typeOfLambda_6 (by decide) ?_
  obtain ⟨k4, s6, k5, s7, e28, e29, h⟩ := h
  have hu9 : 0 + k4 ≤ kc0 := by omega
  have hv9 : 0 + s6 ≤ ks0 := by omega
  refine kG_newNode C wm439 ⟨by show 3 + 1 ≤ 2 * d + 45 + 1; omega, by show 8 + (4 + 11) + (70) ≤ 98 * d + 630 + 23; omega⟩ (Nat.le_of_ble_eq_true rfl) dY_typeOfLambda_7 ⟨hu9, hv9⟩ h (fun z1 a3 r2 hf9 h => ?_)
  have hu : (0 + k4) + k5 ≤ kc0 := by omega
  have hv : (0 + s6) + s7 ≤ ks0 := by omega
  have h := h hf9
  have hfa : fx a0 a3 := fx_trans hfa hf9
  refine x_istore_n C [(3, .int z1), (0, .ref (ob G 4)), (1, .int p0), (2, .int p1)] dY_typeOfLambda_10 rfl (by decide) rfl ?_
  refine x_aload_n C dY_typeOfLambda_11 rfl 1 rfl ?_
  refine x_iload_n C dY_typeOfLambda_12 rfl 2 rfl ?_
  refine x_iload_n C dY_typeOfLambda_13 rfl 0 rfl ?_
  refine x_iconst (v := (-1)) C dY_typeOfLambda_14 (by decide) ?_
  refine kY_enter C wm461 ⟨by show 0 + 1 ≤ 2 * d + 45 + 1; omega, by show 8 + (4 + 11) + (0) ≤ 98 * d + 630 + 23; omega⟩ (Nat.le_of_ble_eq_true rfl) dY_typeOfLambda_15 ⟨Nat.le_trans (Nat.le_add_right _ _) hu, Nat.le_trans (Nat.le_add_right _ _) hv⟩ h (fun r8 h => ?_)
  refine x_aload_n C dY_typeOfLambda_18 rfl 1 rfl ?_
  refine x_iload_n C dY_typeOfLambda_19 rfl 3 rfl ?_
  obtain ⟨k12, s14, k13, s15, e26, e27, h⟩ := h
  have hu9 : (0 + k4) + k12 ≤ kc0 := by omega
  have hv9 : (0 + s6) + s14 ≤ ks0 := by omega
  refine kkY_typeOf C wm431 ⟨by show 2 * d + 45 + 1 ≤ 2 * d + 45 + 1; omega, by show 8 + (4 + 11) + (98 * d + 630) ≤ 98 * d + 630 + 23; omega⟩ (Nat.le_of_ble_eq_true rfl) dY_typeOfLambda_20 ⟨hu9, hv9⟩ (hT _ a3 r8 k12 s14 p1 h) (fun z9 a11 r10 hf9 h => ?_)
  have hu : ((0 + k4) + k12) + k13 ≤ kc0 := by omega
  have hv : ((0 + s6) + s14) + s15 ≤ ks0 := by omega
  have h := h hf9
  have hfa : fx a0 a11 := fx_trans hfa hf9
  refine x_istore C [(4, .int z9), (3, .int z1), (0, .ref (ob G 4)), (1, .int p0), (2, .int p1)] dY_typeOfLambda_23 (by decide) rfl ?_
  refine x_aload_n C dY_typeOfLambda_25 rfl 2 rfl ?_
  refine kY_leave C wm465 ⟨by show 0 + 1 ≤ 2 * d + 45 + 1; omega, by show 8 + (1 + 11) + (0) ≤ 98 * d + 630 + 23; omega⟩ (Nat.le_of_ble_eq_true rfl) dY_typeOfLambda_26 ⟨Nat.le_trans (Nat.le_add_right _ _) hu, Nat.le_trans (Nat.le_add_right _ _) hv⟩ h (fun r16 h => ?_)
  refine x_aload_n C dY_typeOfLambda_29 rfl 2 rfl ?_
  refine gf_4_3 C (List.mem_cons_of_mem _ wm203) dY_typeOfLambda_30 ?_
  refine x_iconst (v := 0) C dY_typeOfLambda_33 (by decide) ?_
  refine x_iload_n C dY_typeOfLambda_34 rfl 1 rfl ?_
  refine x_iload C dY_typeOfLambda_35 0 rfl ?_
  obtain ⟨k20, s22, k21, s23, e24, e25, h⟩ := h
  have hu9 : ((0 + k4) + k12) + k20 ≤ kc0 := by omega
  have hv9 : ((0 + s6) + s14) + s22 ≤ ks0 := by omega
  refine kG_newNode C wm439 ⟨by show 3 + 1 ≤ 2 * d + 45 + 1; omega, by show 8 + (4 + 11) + (70) ≤ 98 * d + 630 + 23; omega⟩ (Nat.le_of_ble_eq_true rfl) dY_typeOfLambda_37 ⟨hu9, hv9⟩ h (fun z17 a19 r18 hf9 h => ?_)
  have hu : (((0 + k4) + k12) + k20) + k21 ≤ kc0 := by omega
  have hv : (((0 + s6) + s14) + s22) + s23 ≤ ks0 := by omega
  have h := h hf9
  have hfa : fx a0 a19 := fx_trans hfa hf9
  refine x_widen (k1 := kc0) (n1 := ks0) (by omega) (by omega) ?_
  exact x_iret C hA hlocks hr ⟨a19, r18, rfl, hfa, h⟩ dY_typeOfLambda_40
set_option maxRecDepth 100000 in
set_option maxHeartbeats 4000000 in
theorem kY_typeOfLambda {p : Program} {l : Launch} {e : Env} {R : Room} {s : State} {m : MethodId} {args : Array Value} {below : List Frame} {meth : Method} {c : Code} {cells slots : Nat} {Q : State → Prop} {A : Nat → Prop} {D : va_G} {nL pc : Nat} {cc : ByteArray} {cw : Cond} {own : String} {lv : List (Nat × Value)} {st : List Value} {G : G_} {T : (Int32 → L_ → S_ → Prop) → L_ → S_ → Nat → Nat → Int32 → Prop} {a : L_} {r : S_} {kc : Nat} {ks : Nat} {K : Int32 → L_ → S_ → Prop} {p0 : Int32} {p1 : Int32} (C : vx_C p s m args c cc nL (cw :: wAll) own D vwCl (tysG G) nwAll A) {d : Nat} (hT : ∀ (K : Int32 → L_ → S_ → Prop) (a : L_) (r : S_) (kc ks : Nat) (p0 : Int32), T K a r kc ks p0 → vx_Mi l yY_typeOf (Cond.code yY_typeOf prog_7_method_3_code 4 (some .int) :: wAll) { frames := 2 * d + 45, cells := kc, slots := ks, locals := 98 * d + 630 } D vwCl (tysG G) nwAll (wo G a r) [.ref (ob G 4), .int p0] kc ks (fun v w => ∃ a1 r1, w = wo G a1 r1 ∧ fx a a1 ∧ K v a1 r1)) {i : Nat} (hl : Cond.methodLink own i yY_typeOfLambda ∈ wAll) (hR : (2 * d + 45 + 1) + 1 ≤ R.frames ∧ 8 + (5 + 11) + (98 * d + 630 + 23) ≤ R.locals) (hst : (st.map fun v => v.category).sum ≤ 8) (hd : decode cc pc = .ok (.invokevirtual i, 3)) (hcs : cells + kc ≤ R.cells ∧ slots + ks ≤ R.slots) (h : qY_typeOfLambda T K a r kc ks p0 p1) (k : ∀ (v : Int32) (a1 : L_) (r1 : S_), fx a a1 → K v a1 r1 → vx_V p l e R s m args below meth c A D vwCl nL (cells + kc) (slots + ks) Q (wo G a1 r1) (pc + 3) lv (.int v :: st)) : vx_V p l e R s m args below meth c A D vwCl nL cells slots Q (wo G a r) pc lv (.int p1 :: .int p0 :: .ref (ob G 4) :: st) := by
  refine x_callVi C (CC := "ClassInference$Typer") (ci := 4) (q0 := 4) (fs := fl4 G a r) (As := [.int p0, .int p1]) rfl rfl (cY_typeOfLambda hT p0 p1 h) (cwV (C := "ClassInference$Typer") 2 C.1.2.2.2.2 (goodV hl wm437 wp6 wm6 wm438) rfl rfl rfl (by decide +kernel) hR) rfl hst hd hcs (fun v w hw => ?_)
  obtain ⟨a1, r1, rfl, hf9, h⟩ := hw
  exact k v a1 r1 hf9 h
def qY_typeOfApply (T : (Int32 → L_ → S_ → Prop) → L_ → S_ → Nat → Nat → Int32 → Prop) (K : Int32 → L_ → S_ → Prop) (a0 : L_) (r : S_) (kc0 : Nat) (ks0 : Nat) (p0 : Int32) (p1 : Int32) : Prop :=
  ∃ k4 s6 k5 s7 : Nat, k4 + k5 = kc0 ∧ s6 + s7 = ks0 ∧ T (fun z1 a3 r2 => fx a0 a3 → ∃ k11 s13 k12 s14 : Nat, k11 + k12 = k5 ∧ s13 + s14 = s7 ∧ T (fun z8 a10 r9 => fx a3 a10 → ∃ k18 s20 k19 s21 : Nat, k18 + k19 = k12 ∧ s20 + s21 = s14 ∧ qG_newNode (fun z15 a17 r16 => fx a10 a17 → ∃ k25 s27 k26 s28 : Nat, k25 + k26 = k19 ∧ s27 + s28 = s21 ∧ qG_newNode (fun z22 a24 r23 => fx a17 a24 → qG_unify a24 (fun r29 => K z15 a24 r29) r23 z1 z22) a17 r16 k25 s27 0 z8 z15) a10 r9 k18 s20 (-1) (-1) (-1)) a3 r2 k11 s13 p1) a0 r k4 s6 p0
set_option maxRecDepth 100000 in
set_option maxHeartbeats 4000000 in
theorem cY_typeOfApply {T : (Int32 → L_ → S_ → Prop) → L_ → S_ → Nat → Nat → Int32 → Prop} {a0 : L_} {r : S_} {kc0 : Nat} {ks0 : Nat} {K : Int32 → L_ → S_ → Prop} {d : Nat} (hT : ∀ (K : Int32 → L_ → S_ → Prop) (a : L_) (r : S_) (kc ks : Nat) (p0 : Int32), T K a r kc ks p0 → vx_Mi l yY_typeOf (Cond.code yY_typeOf prog_7_method_3_code 4 (some .int) :: wAll) { frames := 2 * d + 45, cells := kc, slots := ks, locals := 98 * d + 630 } D vwCl (tysG G) nwAll (wo G a r) [.ref (ob G 4), .int p0] kc ks (fun v w => ∃ a1 r1, w = wo G a1 r1 ∧ fx a a1 ∧ K v a1 r1)) (p0 : Int32) (p1 : Int32) (h : qY_typeOfApply T K a0 r kc0 ks0 p0 p1) : vx_Mi l yY_typeOfApply (Cond.code yY_typeOfApply prog_7_method_6_code 6 (some .int) :: wAll) { frames := 2 * d + 45 + 1, cells := kc0, slots := ks0, locals := 98 * d + 630 + 23 } D vwCl (tysG G) nwAll (wo G a0 r) [.ref (ob G 4), .int p0, .int p1] kc0 ks0 (fun v w => ∃ a1 r1, w = wo G a1 r1 ∧ fx a0 a1 ∧ K v a1 r1) := by
  unfold qY_typeOfApply at h
  refine x_meti (cc := prog_7_method_6_code) (maxL := 6) (ret := (some .int)) (lv0 := [(0, .ref (ob G 4)), (1, .int p0), (2, .int p1)]) (by decide) rfl (Nat.le_of_ble_eq_true rfl) rfl ?_
  intro p e s m args below meth c A C hA hlocks hr
  have hu : 0 + kc0 ≤ kc0 := by omega
  have hv : 0 + ks0 ≤ ks0 := by omega
  have hfa : fx a0 a0 := fx_refl _
  refine x_aload_n C dY_typeOfApply_0 rfl 0 rfl ?_
  refine x_iload_n C dY_typeOfApply_1 rfl 1 rfl ?_
  obtain ⟨k4, s6, k5, s7, e36, e37, h⟩ := h
  have hu9 : 0 + k4 ≤ kc0 := by omega
  have hv9 : 0 + s6 ≤ ks0 := by omega
  refine kkY_typeOf C wm431 ⟨by show 2 * d + 45 + 1 ≤ 2 * d + 45 + 1; omega, by show 8 + (4 + 11) + (98 * d + 630) ≤ 98 * d + 630 + 23; omega⟩ (Nat.le_of_ble_eq_true rfl) dY_typeOfApply_2 ⟨hu9, hv9⟩ (hT _ a0 r k4 s6 p0 h) (fun z1 a3 r2 hf9 h => ?_)
  have hu : (0 + k4) + k5 ≤ kc0 := by omega
  have hv : (0 + s6) + s7 ≤ ks0 := by omega
  have h := h hf9
  have hfa : fx a0 a3 := fx_trans hfa hf9
  refine x_istore_n C [(3, .int z1), (0, .ref (ob G 4)), (1, .int p0), (2, .int p1)] dY_typeOfApply_5 rfl (by decide) rfl ?_
  refine x_aload_n C dY_typeOfApply_6 rfl 1 rfl ?_
  refine x_iload_n C dY_typeOfApply_7 rfl 3 rfl ?_
  obtain ⟨k11, s13, k12, s14, e34, e35, h⟩ := h
  have hu9 : (0 + k4) + k11 ≤ kc0 := by omega
  have hv9 : (0 + s6) + s13 ≤ ks0 := by omega
  refine kkY_typeOf C wm431 ⟨by show 2 * d + 45 + 1 ≤ 2 * d + 45 + 1; omega, by show 8 + (4 + 11) + (98 * d + 630) ≤ 98 * d + 630 + 23; omega⟩ (Nat.le_of_ble_eq_true rfl) dY_typeOfApply_8 ⟨hu9, hv9⟩ (hT _ a3 r2 k11 s13 p1 h) (fun z8 a10 r9 hf9 h => ?_)
  have hu : ((0 + k4) + k11) + k12 ≤ kc0 := by omega
  have hv : ((0 + s6) + s13) + s14 ≤ ks0 := by omega
  have h := h hf9
  have hfa : fx a0 a10 := fx_trans hfa hf9
  refine x_istore C [(4, .int z8), (3, .int z1), (0, .ref (ob G 4)), (1, .int p0), (2, .int p1)] dY_typeOfApply_11 (by decide) rfl ?_
  refine x_aload_n C dY_typeOfApply_13 rfl 2 rfl ?_
  refine gf_4_3 C (List.mem_cons_of_mem _ wm203) dY_typeOfApply_14 ?_
  refine x_iconst (v := (-1)) C dY_typeOfApply_17 (by decide) ?_
  refine x_iconst (v := (-1)) C dY_typeOfApply_18 (by decide) ?_
  refine x_iconst (v := (-1)) C dY_typeOfApply_19 (by decide) ?_
  obtain ⟨k18, s20, k19, s21, e32, e33, h⟩ := h
  have hu9 : ((0 + k4) + k11) + k18 ≤ kc0 := by omega
  have hv9 : ((0 + s6) + s13) + s20 ≤ ks0 := by omega
  refine kG_newNode C wm439 ⟨by show 3 + 1 ≤ 2 * d + 45 + 1; omega, by show 8 + (4 + 11) + (70) ≤ 98 * d + 630 + 23; omega⟩ (Nat.le_of_ble_eq_true rfl) dY_typeOfApply_20 ⟨hu9, hv9⟩ h (fun z15 a17 r16 hf9 h => ?_)
  have hu : (((0 + k4) + k11) + k18) + k19 ≤ kc0 := by omega
  have hv : (((0 + s6) + s13) + s20) + s21 ≤ ks0 := by omega
  have h := h hf9
  have hfa : fx a0 a17 := fx_trans hfa hf9
  refine x_istore C [(5, .int z15), (4, .int z8), (3, .int z1), (0, .ref (ob G 4)), (1, .int p0), (2, .int p1)] dY_typeOfApply_23 (by decide) rfl ?_
  refine x_aload_n C dY_typeOfApply_25 rfl 3 rfl ?_
  refine gf_4_3 C (List.mem_cons_of_mem _ wm203) dY_typeOfApply_26 ?_
  refine x_iload_n C dY_typeOfApply_29 rfl 2 rfl ?_
  refine x_aload_n C dY_typeOfApply_30 rfl 3 rfl ?_
  refine gf_4_3 C (List.mem_cons_of_mem _ wm203) dY_typeOfApply_31 ?_
  refine x_iconst (v := 0) C dY_typeOfApply_34 (by decide) ?_
  refine x_iload C dY_typeOfApply_35 1 rfl ?_
  refine x_iload C dY_typeOfApply_37 0 rfl ?_
  obtain ⟨k25, s27, k26, s28, e30, e31, h⟩ := h
  have hu9 : (((0 + k4) + k11) + k18) + k25 ≤ kc0 := by omega
  have hv9 : (((0 + s6) + s13) + s20) + s27 ≤ ks0 := by omega
  refine kG_newNode C wm439 ⟨by show 3 + 1 ≤ 2 * d + 45 + 1; omega, by show 8 + (4 + 11) + (70) ≤ 98 * d + 630 + 23; omega⟩ (Nat.le_of_ble_eq_true rfl) dY_typeOfApply_39 ⟨hu9, hv9⟩ h (fun z22 a24 r23 hf9 h => ?_)
  have hu : ((((0 + k4) + k11) + k18) + k25) + k26 ≤ kc0 := by omega
  have hv : ((((0 + s6) + s13) + s20) + s27) + s28 ≤ ks0 := by omega
  have h := h hf9
  have hfa : fx a0 a24 := fx_trans hfa hf9
  refine kG_unify C wm473 ⟨by show 3 + 1 ≤ 2 * d + 45 + 1; omega, by show 8 + (4 + 11) + (65) ≤ 98 * d + 630 + 23; omega⟩ (Nat.le_of_ble_eq_true rfl) dY_typeOfApply_42 ⟨Nat.le_trans (Nat.le_add_right _ _) hu, Nat.le_trans (Nat.le_add_right _ _) hv⟩ h (fun r29 h => ?_)
  refine x_iload C dY_typeOfApply_45 0 rfl ?_
  refine x_widen (k1 := kc0) (n1 := ks0) (by omega) (by omega) ?_
  exact x_iret C hA hlocks hr ⟨a24, r29, rfl, hfa, h⟩ dY_typeOfApply_47
set_option maxRecDepth 100000 in
set_option maxHeartbeats 4000000 in
theorem kY_typeOfApply {p : Program} {l : Launch} {e : Env} {R : Room} {s : State} {m : MethodId} {args : Array Value} {below : List Frame} {meth : Method} {c : Code} {cells slots : Nat} {Q : State → Prop} {A : Nat → Prop} {D : va_G} {nL pc : Nat} {cc : ByteArray} {cw : Cond} {own : String} {lv : List (Nat × Value)} {st : List Value} {G : G_} {T : (Int32 → L_ → S_ → Prop) → L_ → S_ → Nat → Nat → Int32 → Prop} {a : L_} {r : S_} {kc : Nat} {ks : Nat} {K : Int32 → L_ → S_ → Prop} {p0 : Int32} {p1 : Int32} (C : vx_C p s m args c cc nL (cw :: wAll) own D vwCl (tysG G) nwAll A) {d : Nat} (hT : ∀ (K : Int32 → L_ → S_ → Prop) (a : L_) (r : S_) (kc ks : Nat) (p0 : Int32), T K a r kc ks p0 → vx_Mi l yY_typeOf (Cond.code yY_typeOf prog_7_method_3_code 4 (some .int) :: wAll) { frames := 2 * d + 45, cells := kc, slots := ks, locals := 98 * d + 630 } D vwCl (tysG G) nwAll (wo G a r) [.ref (ob G 4), .int p0] kc ks (fun v w => ∃ a1 r1, w = wo G a1 r1 ∧ fx a a1 ∧ K v a1 r1)) {i : Nat} (hl : Cond.methodLink own i yY_typeOfApply ∈ wAll) (hR : (2 * d + 45 + 1) + 1 ≤ R.frames ∧ 8 + (6 + 11) + (98 * d + 630 + 23) ≤ R.locals) (hst : (st.map fun v => v.category).sum ≤ 8) (hd : decode cc pc = .ok (.invokevirtual i, 3)) (hcs : cells + kc ≤ R.cells ∧ slots + ks ≤ R.slots) (h : qY_typeOfApply T K a r kc ks p0 p1) (k : ∀ (v : Int32) (a1 : L_) (r1 : S_), fx a a1 → K v a1 r1 → vx_V p l e R s m args below meth c A D vwCl nL (cells + kc) (slots + ks) Q (wo G a1 r1) (pc + 3) lv (.int v :: st)) : vx_V p l e R s m args below meth c A D vwCl nL cells slots Q (wo G a r) pc lv (.int p1 :: .int p0 :: .ref (ob G 4) :: st) := by
  refine x_callVi C (CC := "ClassInference$Typer") (ci := 4) (q0 := 4) (fs := fl4 G a r) (As := [.int p0, .int p1]) rfl rfl (cY_typeOfApply hT p0 p1 h) (cwV (C := "ClassInference$Typer") 2 C.1.2.2.2.2 (goodV hl wm471 wp10 wm6 wm472) rfl rfl rfl (by decide +kernel) hR) rfl hst hd hcs (fun v w hw => ?_)
  obtain ⟨a1, r1, rfl, hf9, h⟩ := hw
  exact k v a1 r1 hf9 h
def qY_typeOfLet (T : (Int32 → L_ → S_ → Prop) → L_ → S_ → Nat → Nat → Int32 → Prop) (K : Int32 → L_ → S_ → Prop) (a0 : L_) (r : S_) (kc0 : Nat) (ks0 : Nat) (p0 : Int32) (p1 : Int32) (p2 : Int32) : Prop :=
  ∃ k4 s6 k5 s7 : Nat, k4 + k5 = kc0 ∧ s6 + s7 = ks0 ∧ T (fun z1 a3 r2 => fx a0 a3 → qY_settle a3 (fun z8 r9 => qY_enter a3 (fun r10 => ∃ k14 s16 k15 s17 : Nat, k14 + k15 = k5 ∧ s16 + s17 = s7 ∧ T (fun z11 a13 r12 => fx a3 a13 → qY_leave a13 (fun r18 => K z11 a13 r18) r12) a3 r10 k14 s16 p2) r9 p0 z1 z8) r2 (fi r 11) z1) a0 r k4 s6 p1
set_option maxRecDepth 100000 in
set_option maxHeartbeats 4000000 in
theorem cY_typeOfLet {T : (Int32 → L_ → S_ → Prop) → L_ → S_ → Nat → Nat → Int32 → Prop} {a0 : L_} {r : S_} {kc0 : Nat} {ks0 : Nat} {K : Int32 → L_ → S_ → Prop} {d : Nat} (hT : ∀ (K : Int32 → L_ → S_ → Prop) (a : L_) (r : S_) (kc ks : Nat) (p0 : Int32), T K a r kc ks p0 → vx_Mi l yY_typeOf (Cond.code yY_typeOf prog_7_method_3_code 4 (some .int) :: wAll) { frames := 2 * d + 45, cells := kc, slots := ks, locals := 98 * d + 630 } D vwCl (tysG G) nwAll (wo G a r) [.ref (ob G 4), .int p0] kc ks (fun v w => ∃ a1 r1, w = wo G a1 r1 ∧ fx a a1 ∧ K v a1 r1)) (p0 : Int32) (p1 : Int32) (p2 : Int32) (h : qY_typeOfLet T K a0 r kc0 ks0 p0 p1 p2) : vx_Mi l yY_typeOfLet (Cond.code yY_typeOfLet prog_7_method_7_code 7 (some .int) :: wAll) { frames := 2 * d + 45 + 1, cells := kc0, slots := ks0, locals := 98 * d + 630 + 23 } D vwCl (tysG G) nwAll (wo G a0 r) [.ref (ob G 4), .int p0, .int p1, .int p2] kc0 ks0 (fun v w => ∃ a1 r1, w = wo G a1 r1 ∧ fx a0 a1 ∧ K v a1 r1) := by
  unfold qY_typeOfLet at h
  refine x_meti (cc := prog_7_method_7_code) (maxL := 7) (ret := (some .int)) (lv0 := [(0, .ref (ob G 4)), (1, .int p0), (2, .int p1), (3, .int p2)]) (by decide) rfl (Nat.le_of_ble_eq_true rfl) rfl ?_
  intro p e s m args below meth c A C hA hlocks hr
  have hu : 0 + kc0 ≤ kc0 := by omega
  have hv : 0 + ks0 ≤ ks0 := by omega
  have hfa : fx a0 a0 := fx_refl _
  refine x_aload_n C dY_typeOfLet_0 rfl 0 rfl ?_
  refine gf_4_3 C (List.mem_cons_of_mem _ wm203) dY_typeOfLet_1 ?_
  refine gn_5_7 C wn154 dY_typeOfLet_4 ?_
  refine x_istore C [(4, .int (fi r 11)), (0, .ref (ob G 4)), (1, .int p0), (2, .int p1), (3, .int p2)] dY_typeOfLet_7 (by decide) rfl ?_
  refine x_aload_n C dY_typeOfLet_9 rfl 1 rfl ?_
  refine x_iload_n C dY_typeOfLet_10 rfl 3 rfl ?_
  obtain ⟨k4, s6, k5, s7, e21, e22, h⟩ := h
  have hu9 : 0 + k4 ≤ kc0 := by omega
  have hv9 : 0 + s6 ≤ ks0 := by omega
  refine kkY_typeOf C wm431 ⟨by show 2 * d + 45 + 1 ≤ 2 * d + 45 + 1; omega, by show 8 + (4 + 11) + (98 * d + 630) ≤ 98 * d + 630 + 23; omega⟩ (Nat.le_of_ble_eq_true rfl) dY_typeOfLet_11 ⟨hu9, hv9⟩ (hT _ a0 r k4 s6 p1 h) (fun z1 a3 r2 hf9 h => ?_)
  have hu : (0 + k4) + k5 ≤ kc0 := by omega
  have hv : (0 + s6) + s7 ≤ ks0 := by omega
  have h := h hf9
  have hfa : fx a0 a3 := fx_trans hfa hf9
  refine x_istore C [(5, .int z1), (4, .int (fi r 11)), (0, .ref (ob G 4)), (1, .int p0), (2, .int p1), (3, .int p2)] dY_typeOfLet_14 (by decide) rfl ?_
  refine x_aload_n C dY_typeOfLet_16 rfl 2 rfl ?_
  refine x_iload_n C dY_typeOfLet_17 rfl 3 rfl ?_
  refine x_iload C dY_typeOfLet_18 0 rfl ?_
  refine x_aload_n C dY_typeOfLet_20 rfl 2 rfl ?_
  refine x_iload C dY_typeOfLet_21 1 rfl ?_
  refine x_iload C dY_typeOfLet_23 0 rfl ?_
  refine kY_settle C wm506 ⟨by show 3 + 1 ≤ 2 * d + 45 + 1; omega, by show 8 + (6 + 11) + (71) ≤ 98 * d + 630 + 23; omega⟩ (Nat.le_of_ble_eq_true rfl) dY_typeOfLet_25 ⟨Nat.le_trans (Nat.le_add_right _ _) hu, Nat.le_trans (Nat.le_add_right _ _) hv⟩ h (fun z8 r9 h => ?_)
  refine kY_enter C wm461 ⟨by show 0 + 1 ≤ 2 * d + 45 + 1; omega, by show 8 + (4 + 11) + (0) ≤ 98 * d + 630 + 23; omega⟩ (Nat.le_of_ble_eq_true rfl) dY_typeOfLet_28 ⟨Nat.le_trans (Nat.le_add_right _ _) hu, Nat.le_trans (Nat.le_add_right _ _) hv⟩ h (fun r10 h => ?_)
  refine x_aload_n C dY_typeOfLet_31 rfl 2 rfl ?_
  refine x_iload_n C dY_typeOfLet_32 rfl 5 rfl ?_
  obtain ⟨k14, s16, k15, s17, e19, e20, h⟩ := h
  have hu9 : (0 + k4) + k14 ≤ kc0 := by omega
  have hv9 : (0 + s6) + s16 ≤ ks0 := by omega
  refine kkY_typeOf C wm431 ⟨by show 2 * d + 45 + 1 ≤ 2 * d + 45 + 1; omega, by show 8 + (4 + 11) + (98 * d + 630) ≤ 98 * d + 630 + 23; omega⟩ (Nat.le_of_ble_eq_true rfl) dY_typeOfLet_33 ⟨hu9, hv9⟩ (hT _ a3 r10 k14 s16 p2 h) (fun z11 a13 r12 hf9 h => ?_)
  have hu : ((0 + k4) + k14) + k15 ≤ kc0 := by omega
  have hv : ((0 + s6) + s16) + s17 ≤ ks0 := by omega
  have h := h hf9
  have hfa : fx a0 a13 := fx_trans hfa hf9
  refine x_istore C [(6, .int z11), (5, .int z1), (4, .int (fi r 11)), (0, .ref (ob G 4)), (1, .int p0), (2, .int p1), (3, .int p2)] dY_typeOfLet_36 (by decide) rfl ?_
  refine x_aload_n C dY_typeOfLet_38 rfl 3 rfl ?_
  refine kY_leave C wm465 ⟨by show 0 + 1 ≤ 2 * d + 45 + 1; omega, by show 8 + (1 + 11) + (0) ≤ 98 * d + 630 + 23; omega⟩ (Nat.le_of_ble_eq_true rfl) dY_typeOfLet_39 ⟨Nat.le_trans (Nat.le_add_right _ _) hu, Nat.le_trans (Nat.le_add_right _ _) hv⟩ h (fun r18 h => ?_)
  refine x_iload C dY_typeOfLet_42 0 rfl ?_
  refine x_widen (k1 := kc0) (n1 := ks0) (by omega) (by omega) ?_
  exact x_iret C hA hlocks hr ⟨a13, r18, rfl, hfa, h⟩ dY_typeOfLet_44
set_option maxRecDepth 100000 in
set_option maxHeartbeats 4000000 in
theorem kY_typeOfLet {p : Program} {l : Launch} {e : Env} {R : Room} {s : State} {m : MethodId} {args : Array Value} {below : List Frame} {meth : Method} {c : Code} {cells slots : Nat} {Q : State → Prop} {A : Nat → Prop} {D : va_G} {nL pc : Nat} {cc : ByteArray} {cw : Cond} {own : String} {lv : List (Nat × Value)} {st : List Value} {G : G_} {T : (Int32 → L_ → S_ → Prop) → L_ → S_ → Nat → Nat → Int32 → Prop} {a : L_} {r : S_} {kc : Nat} {ks : Nat} {K : Int32 → L_ → S_ → Prop} {p0 : Int32} {p1 : Int32} {p2 : Int32} (C : vx_C p s m args c cc nL (cw :: wAll) own D vwCl (tysG G) nwAll A) {d : Nat} (hT : ∀ (K : Int32 → L_ → S_ → Prop) (a : L_) (r : S_) (kc ks : Nat) (p0 : Int32), T K a r kc ks p0 → vx_Mi l yY_typeOf (Cond.code yY_typeOf prog_7_method_3_code 4 (some .int) :: wAll) { frames := 2 * d + 45, cells := kc, slots := ks, locals := 98 * d + 630 } D vwCl (tysG G) nwAll (wo G a r) [.ref (ob G 4), .int p0] kc ks (fun v w => ∃ a1 r1, w = wo G a1 r1 ∧ fx a a1 ∧ K v a1 r1)) {i : Nat} (hl : Cond.methodLink own i yY_typeOfLet ∈ wAll) (hR : (2 * d + 45 + 1) + 1 ≤ R.frames ∧ 8 + (7 + 11) + (98 * d + 630 + 23) ≤ R.locals) (hst : (st.map fun v => v.category).sum ≤ 8) (hd : decode cc pc = .ok (.invokevirtual i, 3)) (hcs : cells + kc ≤ R.cells ∧ slots + ks ≤ R.slots) (h : qY_typeOfLet T K a r kc ks p0 p1 p2) (k : ∀ (v : Int32) (a1 : L_) (r1 : S_), fx a a1 → K v a1 r1 → vx_V p l e R s m args below meth c A D vwCl nL (cells + kc) (slots + ks) Q (wo G a1 r1) (pc + 3) lv (.int v :: st)) : vx_V p l e R s m args below meth c A D vwCl nL cells slots Q (wo G a r) pc lv (.int p2 :: .int p1 :: .int p0 :: .ref (ob G 4) :: st) := by
  refine x_callVi C (CC := "ClassInference$Typer") (ci := 4) (q0 := 4) (fs := fl4 G a r) (As := [.int p0, .int p1, .int p2]) rfl rfl (cY_typeOfLet hT p0 p1 p2 h) (cwV (C := "ClassInference$Typer") 3 C.1.2.2.2.2 (goodV hl wm504 wp15 wm6 wm505) rfl rfl rfl (by decide +kernel) hR) rfl hst hd hcs (fun v w hw => ?_)
  obtain ⟨a1, r1, rfl, hf9, h⟩ := hw
  exact k v a1 r1 hf9 h

def qY_typeOf_B (T : (Int32 → L_ → S_ → Prop) → L_ → S_ → Nat → Nat → Int32 → Prop) (K : Int32 → L_ → S_ → Prop) (a0 : L_) (r : S_) (kc0 : Nat) (ks0 : Nat) (p0 : Int32) : Prop :=
  vp_in p0 (ln a0 13) ∧ vp_in p0 (ln a0 14) ∧ vp_in p0 (ln a0 12) ∧ ((ar r 12 p0.toNatClampNeg) = 1 → ∃ k7 s9 k8 s10 : Nat, k7 + k8 = kc0 ∧ s9 + s10 = ks0 ∧ qY_typeOfLambda T (fun z4 a6 r5 => fx a0 a6 → K z4 a6 r5) a0 r k7 s9 (ar r 13 p0.toNatClampNeg) (ar r 14 p0.toNatClampNeg)) ∧ ((ar r 12 p0.toNatClampNeg) = 2 → ∃ k16 s18 k17 s19 : Nat, k16 + k17 = kc0 ∧ s18 + s19 = ks0 ∧ qY_typeOfApply T (fun z13 a15 r14 => fx a0 a15 → K z13 a15 r14) a0 r k16 s18 (ar r 13 p0.toNatClampNeg) (ar r 14 p0.toNatClampNeg)) ∧ ((ar r 12 p0.toNatClampNeg) = 3 → vp_in p0 (ln a0 15) ∧ ∃ k26 s28 k27 s29 : Nat, k26 + k27 = kc0 ∧ s28 + s29 = ks0 ∧ qY_typeOfLet T (fun z23 a25 r24 => fx a0 a25 → K z23 a25 r24) a0 r k26 s28 (ar r 13 p0.toNatClampNeg) (ar r 14 p0.toNatClampNeg) (ar r 15 p0.toNatClampNeg)) ∧ ((ar r 12 p0.toNatClampNeg) = 4 → ∃ k35 s37 k36 s38 : Nat, k35 + k36 = kc0 ∧ s37 + s38 = ks0 ∧ qY_typeOfMethod (fun z32 a34 r33 => fx a0 a34 → K z32 a34 r33) a0 r k35 s37 (ar r 13 p0.toNatClampNeg)) ∧ ((ar r 12 p0.toNatClampNeg) = 5 → ∃ k44 s46 k45 s47 : Nat, k44 + k45 = kc0 ∧ s46 + s47 = ks0 ∧ qY_freshCopy (fun z41 a43 r42 => fx a0 a43 → K z41 a43 r42) a0 r k44 s46 (ar r 13 p0.toNatClampNeg)) ∧ (((ar r 12 p0.toNatClampNeg).toInt < 1 ∨ 5 < (ar r 12 p0.toNatClampNeg).toInt) → ∃ k53 s55 k54 s56 : Nat, k53 + k54 = kc0 ∧ s55 + s56 = ks0 ∧ qY_typeOfName (fun z50 a52 r51 => fx a0 a52 → K z50 a52 r51) a0 r k53 s55 (ar r 13 p0.toNatClampNeg))
set_option maxRecDepth 100000 in
set_option maxHeartbeats 4000000 in
theorem cY_typeOf_B {T : (Int32 → L_ → S_ → Prop) → L_ → S_ → Nat → Nat → Int32 → Prop} {a0 : L_} {r : S_} {kc0 : Nat} {ks0 : Nat} {K : Int32 → L_ → S_ → Prop} {d : Nat} (hT : ∀ (K : Int32 → L_ → S_ → Prop) (a : L_) (r : S_) (kc ks : Nat) (p0 : Int32), T K a r kc ks p0 → vx_Mi l yY_typeOf (Cond.code yY_typeOf prog_7_method_3_code 4 (some .int) :: wAll) { frames := 2 * d + 45, cells := kc, slots := ks, locals := 98 * d + 630 } D vwCl (tysG G) nwAll (wo G a r) [.ref (ob G 4), .int p0] kc ks (fun v w => ∃ a1 r1, w = wo G a1 r1 ∧ fx a a1 ∧ K v a1 r1)) (p0 : Int32) (h : qY_typeOf_B T K a0 r kc0 ks0 p0) : vx_Mi l yY_typeOf (Cond.code yY_typeOf prog_7_method_3_code 4 (some .int) :: wAll) { frames := 2 * (d + 1) + 45, cells := kc0, slots := ks0, locals := 98 * (d + 1) + 630 } D vwCl (tysG G) nwAll (wo G a0 r) [.ref (ob G 4), .int p0] kc0 ks0 (fun v w => ∃ a1 r1, w = wo G a1 r1 ∧ fx a0 a1 ∧ K v a1 r1) := by
  unfold qY_typeOf_B at h
  refine x_meti (cc := prog_7_method_3_code) (maxL := 4) (ret := (some .int)) (lv0 := [(0, .ref (ob G 4)), (1, .int p0)]) (by decide) rfl (Nat.le_of_ble_eq_true rfl) rfl ?_
  intro p e s m args below meth c A C hA hlocks hr
  have hu : 0 + kc0 ≤ kc0 := by omega
  have hv : 0 + ks0 ≤ ks0 := by omega
  have hfa : fx a0 a0 := fx_refl _
  refine x_aload_n C dY_typeOf_0 rfl 0 rfl ?_
  refine gf_4_2 C (List.mem_cons_of_mem _ wm202) dY_typeOf_1 ?_
  refine gn_3_1 C wn106 dY_typeOf_4 ?_
  refine x_iload_n C dY_typeOf_7 rfl 1 rfl ?_
  obtain ⟨g1, h⟩ := h
  refine y_ia C 13 (by decide) g1 dY_typeOf_8 ?_
  refine x_istore_n C [(2, .int (ar r 13 p0.toNatClampNeg)), (0, .ref (ob G 4)), (1, .int p0)] dY_typeOf_9 rfl (by decide) rfl ?_
  refine x_aload_n C dY_typeOf_10 rfl 1 rfl ?_
  refine gf_4_2 C (List.mem_cons_of_mem _ wm202) dY_typeOf_11 ?_
  refine gn_3_2 C wn108 dY_typeOf_14 ?_
  refine x_iload_n C dY_typeOf_17 rfl 2 rfl ?_
  obtain ⟨g2, h⟩ := h
  refine y_ia C 14 (by decide) g2 dY_typeOf_18 ?_
  refine x_istore_n C [(3, .int (ar r 14 p0.toNatClampNeg)), (2, .int (ar r 13 p0.toNatClampNeg)), (0, .ref (ob G 4)), (1, .int p0)] dY_typeOf_19 rfl (by decide) rfl ?_
  refine x_aload_n C dY_typeOf_20 rfl 2 rfl ?_
  refine gf_4_2 C (List.mem_cons_of_mem _ wm202) dY_typeOf_21 ?_
  refine gn_3_0 C wn104 dY_typeOf_24 ?_
  refine x_iload_n C dY_typeOf_27 rfl 3 rfl ?_
  obtain ⟨g3, h⟩ := h
  refine y_ia C 12 (by decide) g3 dY_typeOf_28 ?_
  by_cases hn0 : (ar r 12 p0.toNatClampNeg) = 1
  · have h := h.1 hn0
    refine x_tableIn (off := 35) (tgt := 64) C dY_typeOf_29 (by rw [hn0]; decide) (by rw [hn0]; decide) (by rw [hn0]; decide) (by decide) ?_
    refine x_aload_n C dY_typeOf_64 rfl 2 rfl ?_
    refine x_iload_n C dY_typeOf_65 rfl 1 rfl ?_
    refine x_iload_n C dY_typeOf_66 rfl 0 rfl ?_
    obtain ⟨k7, s9, k8, s10, e11, e12, h⟩ := h
    have hu9 : 0 + k7 ≤ kc0 := by omega
    have hv9 : 0 + s9 ≤ ks0 := by omega
    refine kY_typeOfLambda C hT wm435 ⟨by show 2 * d + 45 + 1 + 1 ≤ 2 * (d + 1) + 45; omega, by show 8 + (5 + 11) + (98 * d + 630 + 23) ≤ 98 * (d + 1) + 630; omega⟩ (Nat.le_of_ble_eq_true rfl) dY_typeOf_67 ⟨hu9, hv9⟩ h (fun z4 a6 r5 hf9 h => ?_)
    have hu : (0 + k7) + k8 ≤ kc0 := by omega
    have hv : (0 + s9) + s10 ≤ ks0 := by omega
    have h := h hf9
    have hfa : fx a0 a6 := fx_trans hfa hf9
    refine x_widen (k1 := kc0) (n1 := ks0) (by omega) (by omega) ?_
    exact x_iret C hA hlocks hr ⟨a6, r5, rfl, hfa, h⟩ dY_typeOf_70
  · by_cases hn1 : (ar r 12 p0.toNatClampNeg) = 2
    · have h := h.2.1 hn1
      refine x_tableIn (off := 42) (tgt := 71) C dY_typeOf_29 (by rw [hn1]; decide) (by rw [hn1]; decide) (by rw [hn1]; decide) (by decide) ?_
      refine x_aload_n C dY_typeOf_71 rfl 2 rfl ?_
      refine x_iload_n C dY_typeOf_72 rfl 1 rfl ?_
      refine x_iload_n C dY_typeOf_73 rfl 0 rfl ?_
      obtain ⟨k16, s18, k17, s19, e20, e21, h⟩ := h
      have hu9 : 0 + k16 ≤ kc0 := by omega
      have hv9 : 0 + s18 ≤ ks0 := by omega
      refine kY_typeOfApply C hT wm469 ⟨by show 2 * d + 45 + 1 + 1 ≤ 2 * (d + 1) + 45; omega, by show 8 + (6 + 11) + (98 * d + 630 + 23) ≤ 98 * (d + 1) + 630; omega⟩ (Nat.le_of_ble_eq_true rfl) dY_typeOf_74 ⟨hu9, hv9⟩ h (fun z13 a15 r14 hf9 h => ?_)
      have hu : (0 + k16) + k17 ≤ kc0 := by omega
      have hv : (0 + s18) + s19 ≤ ks0 := by omega
      have h := h hf9
      have hfa : fx a0 a15 := fx_trans hfa hf9
      refine x_widen (k1 := kc0) (n1 := ks0) (by omega) (by omega) ?_
      exact x_iret C hA hlocks hr ⟨a15, r14, rfl, hfa, h⟩ dY_typeOf_77
    · by_cases hn2 : (ar r 12 p0.toNatClampNeg) = 3
      · have h := h.2.2.1 hn2
        refine x_tableIn (off := 49) (tgt := 78) C dY_typeOf_29 (by rw [hn2]; decide) (by rw [hn2]; decide) (by rw [hn2]; decide) (by decide) ?_
        refine x_aload_n C dY_typeOf_78 rfl 2 rfl ?_
        refine x_iload_n C dY_typeOf_79 rfl 1 rfl ?_
        refine x_iload_n C dY_typeOf_80 rfl 0 rfl ?_
        refine x_aload_n C dY_typeOf_81 rfl 2 rfl ?_
        refine gf_4_2 C (List.mem_cons_of_mem _ wm202) dY_typeOf_82 ?_
        refine gn_3_3 C wn110 dY_typeOf_85 ?_
        refine x_iload_n C dY_typeOf_88 rfl 3 rfl ?_
        obtain ⟨g22, h⟩ := h
        refine y_ia C 15 (by decide) g22 dY_typeOf_89 ?_
        obtain ⟨k26, s28, k27, s29, e30, e31, h⟩ := h
        have hu9 : 0 + k26 ≤ kc0 := by omega
        have hv9 : 0 + s28 ≤ ks0 := by omega
        refine kY_typeOfLet C hT wm502 ⟨by show 2 * d + 45 + 1 + 1 ≤ 2 * (d + 1) + 45; omega, by show 8 + (7 + 11) + (98 * d + 630 + 23) ≤ 98 * (d + 1) + 630; omega⟩ (Nat.le_of_ble_eq_true rfl) dY_typeOf_90 ⟨hu9, hv9⟩ h (fun z23 a25 r24 hf9 h => ?_)
        have hu : (0 + k26) + k27 ≤ kc0 := by omega
        have hv : (0 + s28) + s29 ≤ ks0 := by omega
        have h := h hf9
        have hfa : fx a0 a25 := fx_trans hfa hf9
        refine x_widen (k1 := kc0) (n1 := ks0) (by omega) (by omega) ?_
        exact x_iret C hA hlocks hr ⟨a25, r24, rfl, hfa, h⟩ dY_typeOf_93
      · by_cases hn3 : (ar r 12 p0.toNatClampNeg) = 4
        · have h := h.2.2.2.1 hn3
          refine x_tableIn (off := 65) (tgt := 94) C dY_typeOf_29 (by rw [hn3]; decide) (by rw [hn3]; decide) (by rw [hn3]; decide) (by decide) ?_
          refine x_aload_n C dY_typeOf_94 rfl 2 rfl ?_
          refine x_iload_n C dY_typeOf_95 rfl 1 rfl ?_
          obtain ⟨k35, s37, k36, s38, e39, e40, h⟩ := h
          have hu9 : 0 + k35 ≤ kc0 := by omega
          have hv9 : 0 + s37 ≤ ks0 := by omega
          refine kY_typeOfMethod C wm570 ⟨by show 43 + 1 ≤ 2 * (d + 1) + 45; omega, by show 8 + (3 + 11) + (608) ≤ 98 * (d + 1) + 630; omega⟩ (Nat.le_of_ble_eq_true rfl) dY_typeOf_96 ⟨hu9, hv9⟩ h (fun z32 a34 r33 hf9 h => ?_)
          have hu : (0 + k35) + k36 ≤ kc0 := by omega
          have hv : (0 + s37) + s38 ≤ ks0 := by omega
          have h := h hf9
          have hfa : fx a0 a34 := fx_trans hfa hf9
          refine x_widen (k1 := kc0) (n1 := ks0) (by omega) (by omega) ?_
          exact x_iret C hA hlocks hr ⟨a34, r33, rfl, hfa, h⟩ dY_typeOf_99
        · by_cases hn4 : (ar r 12 p0.toNatClampNeg) = 5
          · have h := h.2.2.2.2.1 hn4
            refine x_tableIn (off := 71) (tgt := 100) C dY_typeOf_29 (by rw [hn4]; decide) (by rw [hn4]; decide) (by rw [hn4]; decide) (by decide) ?_
            refine x_aload_n C dY_typeOf_100 rfl 2 rfl ?_
            refine x_iload_n C dY_typeOf_101 rfl 1 rfl ?_
            obtain ⟨k44, s46, k45, s47, e48, e49, h⟩ := h
            have hu9 : 0 + k44 ≤ kc0 := by omega
            have hv9 : 0 + s46 ≤ ks0 := by omega
            refine kY_freshCopy C wm575 ⟨by show 42 + 1 ≤ 2 * (d + 1) + 45; omega, by show 8 + (2 + 11) + (587) ≤ 98 * (d + 1) + 630; omega⟩ (Nat.le_of_ble_eq_true rfl) dY_typeOf_102 ⟨hu9, hv9⟩ h (fun z41 a43 r42 hf9 h => ?_)
            have hu : (0 + k44) + k45 ≤ kc0 := by omega
            have hv : (0 + s46) + s47 ≤ ks0 := by omega
            have h := h hf9
            have hfa : fx a0 a43 := fx_trans hfa hf9
            refine x_widen (k1 := kc0) (n1 := ks0) (by omega) (by omega) ?_
            exact x_iret C hA hlocks hr ⟨a43, r42, rfl, hfa, h⟩ dY_typeOf_105
          · have ho : (ar r 12 p0.toNatClampNeg).toInt < 1 ∨ 5 < (ar r 12 p0.toNatClampNeg).toInt := by
              have hq : ∀ k : Int32, ¬ (ar r 12 p0.toNatClampNeg) = k → ¬ (ar r 12 p0.toNatClampNeg).toInt = k.toInt := fun k h9 h8 => h9 (Int32.toInt_inj.mp h8)
              have hm0 := hq 1 hn0
              have hm1 := hq 2 hn1
              have hm2 := hq 3 hn2
              have hm3 := hq 4 hn3
              have hm4 := hq 5 hn4
              simp only [show (1 : Int32).toInt = 1 from by decide, show (2 : Int32).toInt = 2 from by decide, show (3 : Int32).toInt = 3 from by decide, show (4 : Int32).toInt = 4 from by decide, show (5 : Int32).toInt = 5 from by decide] at hm0 hm1 hm2 hm3 hm4
              omega
            have h := h.2.2.2.2.2 ho
            refine x_tableOut (tgt := 106) C dY_typeOf_29 ho (by decide) ?_
            refine x_aload_n C dY_typeOf_106 rfl 2 rfl ?_
            refine x_iload_n C dY_typeOf_107 rfl 1 rfl ?_
            obtain ⟨k53, s55, k54, s56, e57, e58, h⟩ := h
            have hu9 : 0 + k53 ≤ kc0 := by omega
            have hv9 : 0 + s55 ≤ ks0 := by omega
            refine kY_typeOfName C wm584 ⟨by show 5 + 1 ≤ 2 * (d + 1) + 45; omega, by show 8 + (3 + 11) + (117) ≤ 98 * (d + 1) + 630; omega⟩ (Nat.le_of_ble_eq_true rfl) dY_typeOf_108 ⟨hu9, hv9⟩ h (fun z50 a52 r51 hf9 h => ?_)
            have hu : (0 + k53) + k54 ≤ kc0 := by omega
            have hv : (0 + s55) + s56 ≤ ks0 := by omega
            have h := h hf9
            have hfa : fx a0 a52 := fx_trans hfa hf9
            refine x_widen (k1 := kc0) (n1 := ks0) (by omega) (by omega) ?_
            exact x_iret C hA hlocks hr ⟨a52, r51, rfl, hfa, h⟩ dY_typeOf_111
def qY_typeOf : Nat → (Int32 → L_ → S_ → Prop) → L_ → S_ → Nat → Nat → Int32 → Prop
  | 0, _, _, _, _, _, _ => False
  | d + 1, K, a, r, kc, ks, p0 => qY_typeOf_B (qY_typeOf d) K a r kc ks p0
set_option maxRecDepth 100000 in
set_option maxHeartbeats 4000000 in
theorem rY_typeOf : ∀ d : Nat, ∀ (K : Int32 → L_ → S_ → Prop) (a : L_) (r : S_) (kc ks : Nat) (p0 : Int32), qY_typeOf d K a r kc ks p0 → vx_Mi l yY_typeOf (Cond.code yY_typeOf prog_7_method_3_code 4 (some .int) :: wAll) { frames := 2 * d + 45, cells := kc, slots := ks, locals := 98 * d + 630 } D vwCl (tysG G) nwAll (wo G a r) [.ref (ob G 4), .int p0] kc ks (fun v w => ∃ a1 r1, w = wo G a1 r1 ∧ fx a a1 ∧ K v a1 r1) := by
  intro d
  induction d with
  | zero =>
    intro K a r kc ks p0 h
    rw [qY_typeOf] at h
    exact h.elim
  | succ d ih =>
    intro K a r kc ks p0 h
    rw [qY_typeOf] at h
    exact cY_typeOf_B ih p0 h
set_option maxRecDepth 100000 in
set_option maxHeartbeats 4000000 in
theorem kY_typeOf {p : Program} {l : Launch} {e : Env} {R : Room} {s : State} {m : MethodId} {args : Array Value} {below : List Frame} {meth : Method} {c : Code} {cells slots : Nat} {Q : State → Prop} {A : Nat → Prop} {D : va_G} {nL pc : Nat} {cc : ByteArray} {cw : Cond} {own : String} {lv : List (Nat × Value)} {st : List Value} {G : G_} {a : L_} {r : S_} {kc : Nat} {ks : Nat} {d : Nat} {K : Int32 → L_ → S_ → Prop} {p0 : Int32} (C : vx_C p s m args c cc nL (cw :: wAll) own D vwCl (tysG G) nwAll A) {i : Nat} (hl : Cond.methodLink own i yY_typeOf ∈ wAll) (hR : (2 * d + 45) + 1 ≤ R.frames ∧ 8 + (4 + 11) + (98 * d + 630) ≤ R.locals) (hst : (st.map fun v => v.category).sum ≤ 8) (hd : decode cc pc = .ok (.invokevirtual i, 3)) (hcs : cells + kc ≤ R.cells ∧ slots + ks ≤ R.slots) (h : qY_typeOf d K a r kc ks p0) (k : ∀ (v : Int32) (a1 : L_) (r1 : S_), fx a a1 → K v a1 r1 → vx_V p l e R s m args below meth c A D vwCl nL (cells + kc) (slots + ks) Q (wo G a1 r1) (pc + 3) lv (.int v :: st)) : vx_V p l e R s m args below meth c A D vwCl nL cells slots Q (wo G a r) pc lv (.int p0 :: .ref (ob G 4) :: st) := by
  refine x_callVi C (CC := "ClassInference$Typer") (ci := 4) (q0 := 4) (fs := fl4 G a r) (As := [.int p0]) rfl rfl (rY_typeOf d K a r kc ks p0 h) (cwV (C := "ClassInference$Typer") 1 C.1.2.2.2.2 (goodV hl wm433 wp5 wm6 wm434) rfl rfl rfl (by decide +kernel) hR) rfl hst hd hcs (fun v w hw => ?_)
  obtain ⟨a1, r1, rfl, hf9, h⟩ := hw
  exact k v a1 r1 hf9 h
def qY_run (K : Int32 → L_ → S_ → Prop) (a0 : L_) (r : S_) (kc0 : Nat) (ks0 : Nat) (p0 : Int32) : Prop :=
  qG_clear a0 (fun r1 => ∀ r2 : S_, r2 = sF r1 5 0 → ∀ r3 : S_, r3 = sF r2 8 0 → zb 0 ∧ ∀ r4 : S_, r4 = sF r3 9 0 → zb 0 ∧ ∀ r6 : S_, r6 = sF r4 10 0 → ∃ k11 s13 k12 s14 : Nat, k11 + k12 = kc0 ∧ s13 + s14 = ks0 ∧ qY_typeOf 26 (fun z8 a10 r9 => fx a0 a10 → ∀ r15 : S_, r15 = sF r9 7 z8 → qY_settle a10 (fun z16 r17 => ((¬ (fi r17 15) = 0) → K (-2) a10 r17) ∧ (((fi r17 15) = 0) → qG_isCircular a10 (fun z19 r20 => zb z19 → ((z19 = 0) → (((fi r20 9) = 0) → (((fi r20 10) = 0) → K 0 a10 r20) ∧ ((¬ (fi r20 10) = 0) → K (-5) a10 r20)) ∧ ((¬ (fi r20 9) = 0) → K (-4) a10 r20)) ∧ ((¬ z19 = 0) → K (-2) a10 r20)) r17)) r15 0 (fi r15 7)) a0 r6 k11 s13 p0) r
set_option maxRecDepth 100000 in
set_option maxHeartbeats 4000000 in
theorem cY_run {a0 : L_} {r : S_} {kc0 : Nat} {ks0 : Nat} {K : Int32 → L_ → S_ → Prop} (p0 : Int32) (h : qY_run K a0 r kc0 ks0 p0) : vx_Mi l yY_run (Cond.code yY_run prog_7_method_2_code 2 (some .int) :: wAll) { frames := 98, cells := kc0, slots := ks0, locals := 3201 } D vwCl (tysG G) nwAll (wo G a0 r) [.ref (ob G 4), .int p0] kc0 ks0 (fun v w => ∃ a1 r1, w = wo G a1 r1 ∧ fx a0 a1 ∧ K v a1 r1) := by
  unfold qY_run at h
  refine x_meti (cc := prog_7_method_2_code) (maxL := 2) (ret := (some .int)) (lv0 := [(0, .ref (ob G 4)), (1, .int p0)]) (by decide) rfl (Nat.le_of_ble_eq_true rfl) rfl ?_
  intro p e s m args below meth c A C hA hlocks hr
  have hu : 0 + kc0 ≤ kc0 := by omega
  have hv : 0 + ks0 ≤ ks0 := by omega
  have hfa : fx a0 a0 := fx_refl _
  refine x_aload_n C dY_run_0 rfl 0 rfl ?_
  refine gf_4_3 C (List.mem_cons_of_mem _ wm203) dY_run_1 ?_
  refine kG_clear C wm427 ⟨Nat.le_of_ble_eq_true rfl, Nat.le_of_ble_eq_true rfl⟩ (Nat.le_of_ble_eq_true rfl) dY_run_4 ⟨Nat.le_trans (Nat.le_add_right _ _) hu, Nat.le_trans (Nat.le_add_right _ _) hv⟩ h (fun r1 h => ?_)
  refine x_aload_n C dY_run_7 rfl 0 rfl ?_
  refine x_iconst (v := 0) C dY_run_8 (by decide) ?_
  refine pf_4_7 C (List.mem_cons_of_mem _ wm207) dY_run_9 (fun r2 er2 => ?_)
  have h := h r2 er2
  refine x_aload_n C dY_run_12 rfl 0 rfl ?_
  refine x_iconst (v := 0) C dY_run_13 (by decide) ?_
  refine pf_4_11 C (List.mem_cons_of_mem _ wm211) dY_run_14 (fun r3 er3 => ?_)
  have h := h r3 er3
  refine x_aload_n C dY_run_17 rfl 0 rfl ?_
  refine x_iconst (v := 0) C dY_run_18 (by decide) ?_
  obtain ⟨g5, h⟩ := h
  refine pf_4_12 C (List.mem_cons_of_mem _ wm212) g5 dY_run_19 (fun r4 er4 => ?_)
  have h := h r4 er4
  refine x_aload_n C dY_run_22 rfl 0 rfl ?_
  refine x_iconst (v := 0) C dY_run_23 (by decide) ?_
  obtain ⟨g7, h⟩ := h
  refine pf_4_13 C (List.mem_cons_of_mem _ wm213) g7 dY_run_24 (fun r6 er6 => ?_)
  have h := h r6 er6
  refine x_aload_n C dY_run_27 rfl 0 rfl ?_
  refine x_aload_n C dY_run_28 rfl 0 rfl ?_
  refine x_iload_n C dY_run_29 rfl 1 rfl ?_
  obtain ⟨k11, s13, k12, s14, e24, e25, h⟩ := h
  have hu9 : 0 + k11 ≤ kc0 := by omega
  have hv9 : 0 + s13 ≤ ks0 := by omega
  refine kY_typeOf (d := 26) C wm431 ⟨Nat.le_of_ble_eq_true rfl, Nat.le_of_ble_eq_true rfl⟩ (Nat.le_of_ble_eq_true rfl) dY_run_30 ⟨hu9, hv9⟩ h (fun z8 a10 r9 hf9 h => ?_)
  have hu : (0 + k11) + k12 ≤ kc0 := by omega
  have hv : (0 + s13) + s14 ≤ ks0 := by omega
  have h := h hf9
  have hfa : fx a0 a10 := fx_trans hfa hf9
  refine pf_4_10 C (List.mem_cons_of_mem _ wm210) dY_run_33 (fun r15 er15 => ?_)
  have h := h r15 er15
  refine x_aload_n C dY_run_36 rfl 0 rfl ?_
  refine x_iconst (v := 0) C dY_run_37 (by decide) ?_
  refine x_aload_n C dY_run_38 rfl 0 rfl ?_
  refine gf_4_10 C (List.mem_cons_of_mem _ wm210) dY_run_39 ?_
  refine kY_settle C wm506 ⟨Nat.le_of_ble_eq_true rfl, Nat.le_of_ble_eq_true rfl⟩ (Nat.le_of_ble_eq_true rfl) dY_run_42 ⟨Nat.le_trans (Nat.le_add_right _ _) hu, Nat.le_trans (Nat.le_add_right _ _) hv⟩ h (fun z16 r17 h => ?_)
  refine x_pop C dY_run_45 rfl ?_
  refine x_aload_n C dY_run_46 rfl 0 rfl ?_
  refine gf_4_3 C (List.mem_cons_of_mem _ wm203) dY_run_47 ?_
  refine gn_5_15 C wn166 dY_run_50 ?_
  refine x_if_ne (tgt := 66) C dY_run_53 (by decide) (fun g18 => ?_) (fun g18 => ?_)
  · have h := h.1 g18
    refine x_bipush (v := (-2)) C dY_run_66 (by decide) ?_
    refine x_widen (k1 := kc0) (n1 := ks0) (by omega) (by omega) ?_
    exact x_iret C hA hlocks hr ⟨a10, r17, rfl, hfa, h⟩ dY_run_68
  · have h := h.2 g18
    refine x_aload_n C dY_run_56 rfl 0 rfl ?_
    refine gf_4_3 C (List.mem_cons_of_mem _ wm203) dY_run_57 ?_
    refine kG_isCircular C wm599 ⟨Nat.le_of_ble_eq_true rfl, Nat.le_of_ble_eq_true rfl⟩ (Nat.le_of_ble_eq_true rfl) dY_run_60 ⟨Nat.le_trans (Nat.le_add_right _ _) hu, Nat.le_trans (Nat.le_add_right _ _) hv⟩ h (fun z19 r20 hzz19 h => ?_)
    have h := h hzz19
    refine x_if_eq (tgt := 69) C dY_run_63 (by decide) (fun g21 => ?_) (fun g21 => ?_)
    · have h := h.1 g21
      refine x_aload_n C dY_run_69 rfl 0 rfl ?_
      refine gf_4_12 C (List.mem_cons_of_mem _ wm212) dY_run_70 ?_
      refine x_if_eq (tgt := 79) C dY_run_73 (by decide) (fun g22 => ?_) (fun g22 => ?_)
      · have h := h.1 g22
        refine x_aload_n C dY_run_79 rfl 0 rfl ?_
        refine gf_4_13 C (List.mem_cons_of_mem _ wm213) dY_run_80 ?_
        refine x_if_eq (tgt := 91) C dY_run_83 (by decide) (fun g23 => ?_) (fun g23 => ?_)
        · have h := h.1 g23
          refine x_iconst (v := 0) C dY_run_91 (by decide) ?_
          refine x_widen (k1 := kc0) (n1 := ks0) (by omega) (by omega) ?_
          exact x_iret C hA hlocks hr ⟨a10, r20, rfl, hfa, h⟩ dY_run_92
        · have h := h.2 g23
          refine x_bipush (v := (-5)) C dY_run_86 (by decide) ?_
          refine x_goto (tgt := 92) C dY_run_88 (by decide) ?_
          refine x_widen (k1 := kc0) (n1 := ks0) (by omega) (by omega) ?_
          exact x_iret C hA hlocks hr ⟨a10, r20, rfl, hfa, h⟩ dY_run_92
      · have h := h.2 g22
        refine x_bipush (v := (-4)) C dY_run_76 (by decide) ?_
        refine x_widen (k1 := kc0) (n1 := ks0) (by omega) (by omega) ?_
        exact x_iret C hA hlocks hr ⟨a10, r20, rfl, hfa, h⟩ dY_run_78
    · have h := h.2 g21
      refine x_bipush (v := (-2)) C dY_run_66 (by decide) ?_
      refine x_widen (k1 := kc0) (n1 := ks0) (by omega) (by omega) ?_
      exact x_iret C hA hlocks hr ⟨a10, r20, rfl, hfa, h⟩ dY_run_68
set_option maxRecDepth 100000 in
set_option maxHeartbeats 4000000 in
theorem kY_run {p : Program} {l : Launch} {e : Env} {R : Room} {s : State} {m : MethodId} {args : Array Value} {below : List Frame} {meth : Method} {c : Code} {cells slots : Nat} {Q : State → Prop} {A : Nat → Prop} {D : va_G} {nL pc : Nat} {cc : ByteArray} {cw : Cond} {own : String} {lv : List (Nat × Value)} {st : List Value} {G : G_} {a : L_} {r : S_} {kc : Nat} {ks : Nat} {K : Int32 → L_ → S_ → Prop} {p0 : Int32} (C : vx_C p s m args c cc nL (cw :: wAll) own D vwCl (tysG G) nwAll A) {i : Nat} (hl : Cond.methodLink own i yY_run ∈ wAll) (hR : 98 + 1 ≤ R.frames ∧ 8 + (2 + 11) + 3201 ≤ R.locals) (hst : (st.map fun v => v.category).sum ≤ 8) (hd : decode cc pc = .ok (.invokevirtual i, 3)) (hcs : cells + kc ≤ R.cells ∧ slots + ks ≤ R.slots) (h : qY_run K a r kc ks p0) (k : ∀ (v : Int32) (a1 : L_) (r1 : S_), fx a a1 → K v a1 r1 → vx_V p l e R s m args below meth c A D vwCl nL (cells + kc) (slots + ks) Q (wo G a1 r1) (pc + 3) lv (.int v :: st)) : vx_V p l e R s m args below meth c A D vwCl nL cells slots Q (wo G a r) pc lv (.int p0 :: .ref (ob G 4) :: st) := by
  refine x_callVi C (CC := "ClassInference$Typer") (ci := 4) (q0 := 4) (fs := fl4 G a r) (As := [.int p0]) rfl rfl (cY_run p0 h) (cwV (C := "ClassInference$Typer") 1 C.1.2.2.2.2 (goodV hl wm424 wm425 wm6 wm426) rfl rfl rfl (by decide +kernel) hR) rfl hst hd hcs (fun v w hw => ?_)
  obtain ⟨a1, r1, rfl, hf9, h⟩ := hw
  exact k v a1 r1 hf9 h
end MTH2
