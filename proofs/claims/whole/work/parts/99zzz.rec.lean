abbrev yK_holdsAll : MethodName := { cls := "ClassInference$ClassTable", name := "holdsAll", desc := "(IILClassInference$TypeTable;)Z" }
abbrev yK_holdsAllDown : MethodName := { cls := "ClassInference$ClassTable", name := "holdsAllDown", desc := "(IILClassInference$TypeTable;I)Z" }
abbrev yY_writeOut : MethodName := { cls := "ClassInference$Typer", name := "writeOut", desc := "(I)I" }
theorem wm580 : (Jvm.Cond.methodLink "ClassInference$Typer" (145 : Nat) ({ cls := "ClassInference$Typer", name := "writeOut", desc := "(I)I" } : Jvm.MethodName)) ∈ wAll := mw 580 (by decide +kernel) (by decide +kernel)
theorem wm582 : (Jvm.Cond.instanceMethod ({ cls := "ClassInference$Typer", name := "writeOut", desc := "(I)I" } : Jvm.MethodName)) ∈ wAll := mw 582 (by decide +kernel) (by decide +kernel)
theorem wm583 : (Jvm.Cond.code ({ cls := "ClassInference$Typer", name := "writeOut", desc := "(I)I" } : Jvm.MethodName) prog_7_method_12_code (7 : Nat) (Option.some Jvm.ClassFile.FieldType.int)) ∈ wAll := mw 583 (by decide +kernel) (by decide +kernel)
theorem wm682 : (Jvm.Cond.instanceMethod ({ cls := "ClassInference$ClassTable", name := "holdsAll", desc := "(IILClassInference$TypeTable;)Z" } : Jvm.MethodName)) ∈ wAll := mw 682 (by decide +kernel) (by decide +kernel)
theorem wm683 : (Jvm.Cond.selects "ClassInference$ClassTable" ({ cls := "ClassInference$ClassTable", name := "holdsAll", desc := "(IILClassInference$TypeTable;)Z" } : Jvm.MethodName) ({ cls := "ClassInference$ClassTable", name := "holdsAll", desc := "(IILClassInference$TypeTable;)Z" } : Jvm.MethodName)) ∈ wAll := mw 683 (by decide +kernel) (by decide +kernel)
theorem wm684 : (Jvm.Cond.code ({ cls := "ClassInference$ClassTable", name := "holdsAll", desc := "(IILClassInference$TypeTable;)Z" } : Jvm.MethodName) prog_2_method_14_code (4 : Nat) (Option.some Jvm.ClassFile.FieldType.boolean)) ∈ wAll := mw 684 (by decide +kernel) (by decide +kernel)
theorem wm685 : (Jvm.Cond.methodLink "ClassInference$ClassTable" (55 : Nat) ({ cls := "ClassInference$ClassTable", name := "holdsAllDown", desc := "(IILClassInference$TypeTable;I)Z" } : Jvm.MethodName)) ∈ wAll := mw 685 (by decide +kernel) (by decide +kernel)
theorem wm687 : (Jvm.Cond.instanceMethod ({ cls := "ClassInference$ClassTable", name := "holdsAllDown", desc := "(IILClassInference$TypeTable;I)Z" } : Jvm.MethodName)) ∈ wAll := mw 687 (by decide +kernel) (by decide +kernel)
theorem wm688 : (Jvm.Cond.code ({ cls := "ClassInference$ClassTable", name := "holdsAllDown", desc := "(IILClassInference$TypeTable;I)Z" } : Jvm.MethodName) prog_2_method_15_code (10 : Nat) (Option.some Jvm.ClassFile.FieldType.boolean)) ∈ wAll := mw 688 (by decide +kernel) (by decide +kernel)
theorem wm689 : (Jvm.Cond.methodLink "ClassInference$ClassTable" (64 : Nat) ({ cls := "ClassInference$ClassTable", name := "haveInstances", desc := "(II)Z" } : Jvm.MethodName)) ∈ wAll := mw 689 (by decide +kernel) (by decide +kernel)
theorem wm690 : (Jvm.Cond.methodLink "ClassInference$ClassTable" (67 : Nat) ({ cls := "ClassInference$ClassTable", name := "joined", desc := "([III)I" } : Jvm.MethodName)) ∈ wAll := mw 690 (by decide +kernel) (by decide +kernel)
theorem wn30 : (Jvm.Cond.fieldLinkNest "ClassInference$Typer" (148 : Nat) "ClassInference$TypeTable" "head" "[I" "ClassInference") ∈ nwAll := mwN 30 (by decide +kernel) (by decide +kernel)
theorem wn31 : (Jvm.Cond.fieldLinkNest "ClassInference$ClassTable" (59 : Nat) "ClassInference$TypeTable" "head" "[I" "ClassInference") ∈ nwAll := mwN 31 (by decide +kernel) (by decide +kernel)
theorem wn33 : (Jvm.Cond.fieldLinkNest "ClassInference$Typer" (153 : Nat) "ClassInference$TypeTable" "first" "[I" "ClassInference") ∈ nwAll := mwN 33 (by decide +kernel) (by decide +kernel)
theorem wn34 : (Jvm.Cond.fieldLinkNest "ClassInference$ClassTable" (71 : Nat) "ClassInference$TypeTable" "first" "[I" "ClassInference") ∈ nwAll := mwN 34 (by decide +kernel) (by decide +kernel)
theorem wn36 : (Jvm.Cond.fieldLinkNest "ClassInference$Typer" (156 : Nat) "ClassInference$TypeTable" "second" "[I" "ClassInference") ∈ nwAll := mwN 36 (by decide +kernel) (by decide +kernel)
theorem wn37 : (Jvm.Cond.fieldLinkNest "ClassInference$ClassTable" (74 : Nat) "ClassInference$TypeTable" "second" "[I" "ClassInference") ∈ nwAll := mwN 37 (by decide +kernel) (by decide +kernel)
theorem wp25 : Cond.selects "ClassInference$Typer" ⟨"ClassInference$Typer", "writeOut", "(I)I"⟩ ⟨"ClassInference$Typer", "writeOut", "(I)I"⟩ ∈ wAll := mwP 25 (by decide +kernel) (by decide +kernel)
theorem wp29 : Cond.selects "ClassInference$ClassTable" ⟨"ClassInference$ClassTable", "holdsAllDown", "(IILClassInference$TypeTable;I)Z"⟩ ⟨"ClassInference$ClassTable", "holdsAllDown", "(IILClassInference$TypeTable;I)Z"⟩ ∈ wAll := mwP 29 (by decide +kernel) (by decide +kernel)
section MTH2
variable {p : Program} {l : Launch} {e : Env} {s : State} {m : MethodId} {args : Array Value} {below : List Frame} {meth : Method} {c : Code} {Q : State → Prop} {A : Nat → Prop} {D : va_G} {G : G_} {ws0 : va_W} {mc ms : Nat}
set_option maxRecDepth 100000 in
set_option maxHeartbeats 4000000 in
theorem kkK_holdsAllDown {p : Program} {l : Launch} {e : Env} {R : Room} {s : State} {m : MethodId} {args : Array Value} {below : List Frame} {meth : Method} {c : Code} {cells slots : Nat} {Q : State → Prop} {A : Nat → Prop} {D : va_G} {nL pc : Nat} {cc : ByteArray} {cw : Cond} {own : String} {lv : List (Nat × Value)} {st : List Value} {G : G_} {a : L_} {r : S_} {F Lc : Nat} {K : Int32 → Prop} {p0 : Int32} {p1 : Int32} {p3 : Int32} (C : vx_C p s m args c cc nL (cw :: wAll) own D vwCl (tysG G) nwAll A) {i : Nat} (hl : Cond.methodLink own i yK_holdsAllDown ∈ wAll) (hR : F + 1 ≤ R.frames ∧ 8 + (10 + 11) + Lc ≤ R.locals) (hst : (st.map fun v => v.category).sum ≤ 8) (hd : decode cc pc = .ok (.invokevirtual i, 3)) (hcs : cells ≤ R.cells ∧ slots ≤ R.slots) (h : vx_Mi l yK_holdsAllDown (Cond.code yK_holdsAllDown prog_2_method_15_code 10 (some .boolean) :: wAll) { frames := F, cells := 0, slots := 0, locals := Lc } D vwCl (tysG G) nwAll (wo G a r) [.ref (ob G 2), .int p0, .int p1, .ref (ob G 1), .int p3] 0 0 (fun v w => w = wo G a r ∧ zb v ∧ K v)) (k : ∀ (v : Int32), zb v → K v → vx_V p l e R s m args below meth c A D vwCl nL cells slots Q (wo G a r) (pc + 3) lv (.int v :: st)) : vx_V p l e R s m args below meth c A D vwCl nL cells slots Q (wo G a r) pc lv (.int p3 :: .ref (ob G 1) :: .int p1 :: .int p0 :: .ref (ob G 2) :: st) := by
  refine x_callVi C (CC := "ClassInference$ClassTable") (ci := 2) (q0 := 2) (fs := fl2 G a r) (As := [.int p0, .int p1, .ref (ob G 1), .int p3]) rfl rfl h (cwV (C := "ClassInference$ClassTable") 4 C.1.2.2.2.2 (goodV hl wm687 wp29 wm3 wm688) rfl rfl rfl (by decide +kernel) hR) rfl hst hd hcs (fun v w hw => ?_)
  obtain ⟨rfl, h⟩ := hw
  exact k v h.1 h.2
def qK_holdsAllDown_B_J118 (a : L_) (r : S_) (T : (Int32 → Prop) → Int32 → Int32 → Int32 → Prop) (K : Int32 → Prop) : Prop :=
  zb 1 ∧ K 1
set_option maxRecDepth 100000 in
set_option maxHeartbeats 4000000 in
theorem tK_holdsAllDown_B_J118 (C : vx_C p s m args c prog_2_method_15_code 10 (Cond.code yK_holdsAllDown prog_2_method_15_code 10 (some .boolean) :: wAll) "ClassInference$ClassTable" D vwCl (tysG G) nwAll A) (hA : A = va_A ws0 s.heap.size) (hlocks : meth.locks = false) (hr : meth.sig.returnType = (some .boolean)) {a : L_} {r : S_} {T : (Int32 → Prop) → Int32 → Int32 → Int32 → Prop} {d : Nat} (hT : ∀ (K : Int32 → Prop) (p0 : Int32) (p1 : Int32) (p3 : Int32), T K p0 p1 p3 → vx_Mi l yK_holdsAllDown (Cond.code yK_holdsAllDown prog_2_method_15_code 10 (some .boolean) :: wAll) { frames := 2 * d + 3, cells := 0, slots := 0, locals := 29 * d + 46 } D vwCl (tysG G) nwAll (wo G a r) [.ref (ob G 2), .int p0, .int p1, .ref (ob G 1), .int p3] 0 0 (fun v w => w = wo G a r ∧ zb v ∧ K v)) {K : Int32 → Prop} (h : qK_holdsAllDown_B_J118 a r T K ) : vx_V p l e { frames := 2 * (d + 1) + 3, cells := 0, slots := 0, locals := 29 * (d + 1) + 46 } s m args below meth c A D vwCl 10 0 0 (MQ below (va_Qi (fun v w => w = wo G a r ∧ zb v ∧ K v) (vx_B D vwCl (tysG G) A) A) args s 0 0 A) (wo G a r) 118 [] [] := by
  unfold qK_holdsAllDown_B_J118 at h
  refine x_iconst (v := 1) C dK_holdsAllDown_118 (by decide) ?_
  refine x_goto (tgt := 123) C dK_holdsAllDown_119 (by decide) ?_
  obtain ⟨g14, h⟩ := h
  exact x_zret C hA hlocks hr (zb_n g14) ⟨rfl, g14, h⟩ dK_holdsAllDown_123
def qK_holdsAllDown_B_J96 (a : L_) (r : S_) (T : (Int32 → Prop) → Int32 → Int32 → Int32 → Prop) (K : Int32 → Prop) (v4 : Int32) (v7 : Int32) (v9 : Int32) : Prop :=
  ((v9 = (-1)) → qK_holdsAllDown_B_J118 a r T K) ∧ ((¬ v9 = (-1)) → T (fun z15 => zb z15 → ((z15 = 0) → zb 0 ∧ K 0) ∧ ((¬ z15 = 0) → qK_holdsAllDown_B_J118 a r T K)) v7 v9 (v4 + 1))
set_option maxRecDepth 100000 in
set_option maxHeartbeats 4000000 in
theorem tK_holdsAllDown_B_J96 (C : vx_C p s m args c prog_2_method_15_code 10 (Cond.code yK_holdsAllDown prog_2_method_15_code 10 (some .boolean) :: wAll) "ClassInference$ClassTable" D vwCl (tysG G) nwAll A) (hA : A = va_A ws0 s.heap.size) (hlocks : meth.locks = false) (hr : meth.sig.returnType = (some .boolean)) {a : L_} {r : S_} {T : (Int32 → Prop) → Int32 → Int32 → Int32 → Prop} {d : Nat} (hT : ∀ (K : Int32 → Prop) (p0 : Int32) (p1 : Int32) (p3 : Int32), T K p0 p1 p3 → vx_Mi l yK_holdsAllDown (Cond.code yK_holdsAllDown prog_2_method_15_code 10 (some .boolean) :: wAll) { frames := 2 * d + 3, cells := 0, slots := 0, locals := 29 * d + 46 } D vwCl (tysG G) nwAll (wo G a r) [.ref (ob G 2), .int p0, .int p1, .ref (ob G 1), .int p3] 0 0 (fun v w => w = wo G a r ∧ zb v ∧ K v)) {K : Int32 → Prop} (v4 : Int32) (v7 : Int32) (v9 : Int32) (h : qK_holdsAllDown_B_J96 a r T K v4 v7 v9) : vx_V p l e { frames := 2 * (d + 1) + 3, cells := 0, slots := 0, locals := 29 * (d + 1) + 46 } s m args below meth c A D vwCl 10 0 0 (MQ below (va_Qi (fun v w => w = wo G a r ∧ zb v ∧ K v) (vx_B D vwCl (tysG G) A) A) args s 0 0 A) (wo G a r) 96 [(0, .ref (ob G 2)), (3, .ref (ob G 1)), (4, .int v4), (7, .int v7), (9, .int v9)] [] := by
  unfold qK_holdsAllDown_B_J96 at h
  refine x_iload C dK_holdsAllDown_96 4 rfl ?_
  refine x_iconst (v := (-1)) C dK_holdsAllDown_98 (by decide) ?_
  refine x_icmp_eq (tgt := 118) C dK_holdsAllDown_99 (by decide) (fun g13 => ?_) (fun g13 => ?_)
  · have h := h.1 g13
    refine x_sub [] rfl ?_
    exact tK_holdsAllDown_B_J118 C hA hlocks hr hT h
  · have h := h.2 g13
    refine x_aload_n C dK_holdsAllDown_102 rfl 0 rfl ?_
    refine x_iload C dK_holdsAllDown_103 3 rfl ?_
    refine x_iload C dK_holdsAllDown_105 4 rfl ?_
    refine x_aload_n C dK_holdsAllDown_107 rfl 1 rfl ?_
    refine x_iload C dK_holdsAllDown_108 2 rfl ?_
    refine x_iconst (v := 1) C dK_holdsAllDown_110 (by decide) ?_
    refine x_iadd C dK_holdsAllDown_111 ?_
    refine kkK_holdsAllDown C wm685 ⟨by show 2 * d + 3 + 1 ≤ 2 * (d + 1) + 3; omega, by show 8 + (10 + 11) + (29 * d + 46) ≤ 29 * (d + 1) + 46; omega⟩ (Nat.le_of_ble_eq_true rfl) dK_holdsAllDown_112 ⟨Nat.zero_le _, Nat.zero_le _⟩ (hT _ v7 v9 (v4 + 1) h) (fun z15 hzz15 h => ?_)
    have h := h hzz15
    refine x_if_eq (tgt := 122) C dK_holdsAllDown_115 (by decide) (fun g16 => ?_) (fun g16 => ?_)
    · have h := h.1 g16
      refine x_iconst (v := 0) C dK_holdsAllDown_122 (by decide) ?_
      obtain ⟨g17, h⟩ := h
      exact x_zret C hA hlocks hr (zb_n g17) ⟨rfl, g17, h⟩ dK_holdsAllDown_123
    · have h := h.2 g16
      refine x_sub [] rfl ?_
      exact tK_holdsAllDown_B_J118 C hA hlocks hr hT h
def qK_holdsAllDown_B (a : L_) (r : S_) (T : (Int32 → Prop) → Int32 → Int32 → Int32 → Prop) (K : Int32 → Prop) (p0 : Int32) (p1 : Int32) (p3 : Int32) : Prop :=
  vp_in p1 (ln a 1) ∧ ((16 < p3) → zb 0 ∧ K 0) ∧ ((¬ 16 < p3) → (((ar r 1 p1.toNatClampNeg) < 0) → zb 0 ∧ K 0) ∧ ((¬ (ar r 1 p1.toNatClampNeg) < 0) → qK_haveInstances a r (fun z6 => zb z6 → ((¬ z6 = 0) → qK_joined a r 10 (fun z8 => qK_joined a r 11 (fun z9 => vp_in p1 (ln a 2) ∧ vp_in p1 (ln a 3) ∧ (((ar r 2 p1.toNatClampNeg) = (-1)) → qK_holdsAllDown_B_J96 a r T K p3 z9 (ar r 3 p1.toNatClampNeg)) ∧ ((¬ (ar r 2 p1.toNatClampNeg) = (-1)) → T (fun z18 => zb z18 → ((z18 = 0) → zb 0 ∧ K 0) ∧ ((¬ z18 = 0) → qK_holdsAllDown_B_J96 a r T K p3 z9 (ar r 3 p1.toNatClampNeg))) z8 (ar r 2 p1.toNatClampNeg) (p3 + 1))) p0 (ar r 1 p1.toNatClampNeg)) p0 (ar r 1 p1.toNatClampNeg)) ∧ ((z6 = 0) → zb 0 ∧ K 0)) p0 (ar r 1 p1.toNatClampNeg)))
set_option maxRecDepth 100000 in
set_option maxHeartbeats 4000000 in
theorem cK_holdsAllDown_B {a : L_} {r : S_} {T : (Int32 → Prop) → Int32 → Int32 → Int32 → Prop} {K : Int32 → Prop} {d : Nat} (hT : ∀ (K : Int32 → Prop) (p0 : Int32) (p1 : Int32) (p3 : Int32), T K p0 p1 p3 → vx_Mi l yK_holdsAllDown (Cond.code yK_holdsAllDown prog_2_method_15_code 10 (some .boolean) :: wAll) { frames := 2 * d + 3, cells := 0, slots := 0, locals := 29 * d + 46 } D vwCl (tysG G) nwAll (wo G a r) [.ref (ob G 2), .int p0, .int p1, .ref (ob G 1), .int p3] 0 0 (fun v w => w = wo G a r ∧ zb v ∧ K v)) (p0 : Int32) (p1 : Int32) (p3 : Int32) (h : qK_holdsAllDown_B a r T K p0 p1 p3) : vx_Mi l yK_holdsAllDown (Cond.code yK_holdsAllDown prog_2_method_15_code 10 (some .boolean) :: wAll) { frames := 2 * (d + 1) + 3, cells := 0, slots := 0, locals := 29 * (d + 1) + 46 } D vwCl (tysG G) nwAll (wo G a r) [.ref (ob G 2), .int p0, .int p1, .ref (ob G 1), .int p3] 0 0 (fun v w => w = wo G a r ∧ zb v ∧ K v) := by
  unfold qK_holdsAllDown_B at h
  refine x_meti (cc := prog_2_method_15_code) (maxL := 10) (ret := (some .boolean)) (lv0 := [(0, .ref (ob G 2)), (1, .int p0), (2, .int p1), (3, .ref (ob G 1)), (4, .int p3)]) (by decide) rfl (Nat.le_of_ble_eq_true rfl) rfl ?_
  intro p e s m args below meth c A C hA hlocks hr
  refine x_aload_n C dK_holdsAllDown_0 rfl 3 rfl ?_
  refine gn_1_2 C wn31 dK_holdsAllDown_1 ?_
  refine x_iload_n C dK_holdsAllDown_4 rfl 2 rfl ?_
  obtain ⟨g1, h⟩ := h
  refine y_ia C 1 (by decide) g1 dK_holdsAllDown_5 ?_
  refine x_istore C [(5, .int (ar r 1 p1.toNatClampNeg)), (0, .ref (ob G 2)), (1, .int p0), (2, .int p1), (3, .ref (ob G 1)), (4, .int p3)] dK_holdsAllDown_6 (by decide) rfl ?_
  refine x_iload C dK_holdsAllDown_8 5 rfl ?_
  refine x_bipush (v := 16) C dK_holdsAllDown_10 (by decide) ?_
  refine x_icmp_gt (tgt := 30) C dK_holdsAllDown_12 (by decide) (fun g2 => ?_) (fun g2 => ?_)
  · have h := h.1 g2
    refine x_iconst (v := 0) C dK_holdsAllDown_30 (by decide) ?_
    obtain ⟨g3, h⟩ := h
    exact x_zret C hA hlocks hr (zb_n g3) ⟨rfl, g3, h⟩ dK_holdsAllDown_31
  · have h := h.2 g2
    refine x_iload C dK_holdsAllDown_15 0 rfl ?_
    refine x_if_lt (tgt := 30) C dK_holdsAllDown_17 (by decide) (fun g4 => ?_) (fun g4 => ?_)
    · have h := h.1 g4
      refine x_iconst (v := 0) C dK_holdsAllDown_30 (by decide) ?_
      obtain ⟨g5, h⟩ := h
      exact x_zret C hA hlocks hr (zb_n g5) ⟨rfl, g5, h⟩ dK_holdsAllDown_31
    · have h := h.2 g4
      refine x_aload_n C dK_holdsAllDown_20 rfl 1 rfl ?_
      refine x_iload_n C dK_holdsAllDown_21 rfl 2 rfl ?_
      refine x_iload C dK_holdsAllDown_22 0 rfl ?_
      refine kK_haveInstances C wm689 ⟨by show 1 + 1 ≤ 2 * (d + 1) + 3; omega, by show 8 + (4 + 11) + (21) ≤ 29 * (d + 1) + 46; omega⟩ (Nat.le_of_ble_eq_true rfl) dK_holdsAllDown_24 ⟨Nat.zero_le _, Nat.zero_le _⟩ h (fun z6 hzz6 h => ?_)
      have h := h hzz6
      refine x_if_ne (tgt := 32) C dK_holdsAllDown_27 (by decide) (fun g7 => ?_) (fun g7 => ?_)
      · have h := h.1 g7
        refine x_aload_n C dK_holdsAllDown_32 rfl 1 rfl ?_
        refine x_aload_n C dK_holdsAllDown_33 rfl 1 rfl ?_
        refine gf_2_5 C (List.mem_cons_of_mem _ wm75) dK_holdsAllDown_34 ?_
        refine x_iload_n C dK_holdsAllDown_37 rfl 2 rfl ?_
        refine x_iload C dK_holdsAllDown_38 0 rfl ?_
        refine kK_joined C (by decide) wm690 ⟨by show 1 + 1 ≤ 2 * (d + 1) + 3; omega, by show 8 + (6 + 11) + (21) ≤ 29 * (d + 1) + 46; omega⟩ (Nat.le_of_ble_eq_true rfl) dK_holdsAllDown_40 ⟨Nat.zero_le _, Nat.zero_le _⟩ h (fun z8 h => ?_)
        refine x_istore C [(6, .int z8), (5, .int (ar r 1 p1.toNatClampNeg)), (0, .ref (ob G 2)), (1, .int p0), (2, .int p1), (3, .ref (ob G 1)), (4, .int p3)] dK_holdsAllDown_43 (by decide) rfl ?_
        refine x_aload_n C dK_holdsAllDown_45 rfl 2 rfl ?_
        refine x_aload_n C dK_holdsAllDown_46 rfl 2 rfl ?_
        refine gf_2_6 C (List.mem_cons_of_mem _ wm77) dK_holdsAllDown_47 ?_
        refine x_iload_n C dK_holdsAllDown_50 rfl 3 rfl ?_
        refine x_iload C dK_holdsAllDown_51 1 rfl ?_
        refine kK_joined C (by decide) wm690 ⟨by show 1 + 1 ≤ 2 * (d + 1) + 3; omega, by show 8 + (6 + 11) + (21) ≤ 29 * (d + 1) + 46; omega⟩ (Nat.le_of_ble_eq_true rfl) dK_holdsAllDown_53 ⟨Nat.zero_le _, Nat.zero_le _⟩ h (fun z9 h => ?_)
        refine x_istore C [(7, .int z9), (6, .int z8), (5, .int (ar r 1 p1.toNatClampNeg)), (0, .ref (ob G 2)), (1, .int p0), (2, .int p1), (3, .ref (ob G 1)), (4, .int p3)] dK_holdsAllDown_56 (by decide) rfl ?_
        refine x_aload_n C dK_holdsAllDown_58 rfl 6 rfl ?_
        refine gn_1_3 C wn34 dK_holdsAllDown_59 ?_
        refine x_iload_n C dK_holdsAllDown_62 rfl 5 rfl ?_
        obtain ⟨g10, h⟩ := h
        refine y_ia C 2 (by decide) g10 dK_holdsAllDown_63 ?_
        refine x_istore C [(8, .int (ar r 2 p1.toNatClampNeg)), (7, .int z9), (6, .int z8), (5, .int (ar r 1 p1.toNatClampNeg)), (0, .ref (ob G 2)), (1, .int p0), (2, .int p1), (3, .ref (ob G 1)), (4, .int p3)] dK_holdsAllDown_64 (by decide) rfl ?_
        refine x_aload_n C dK_holdsAllDown_66 rfl 7 rfl ?_
        refine gn_1_4 C wn37 dK_holdsAllDown_67 ?_
        refine x_iload_n C dK_holdsAllDown_70 rfl 6 rfl ?_
        obtain ⟨g11, h⟩ := h
        refine y_ia C 3 (by decide) g11 dK_holdsAllDown_71 ?_
        refine x_istore C [(9, .int (ar r 3 p1.toNatClampNeg)), (8, .int (ar r 2 p1.toNatClampNeg)), (7, .int z9), (6, .int z8), (5, .int (ar r 1 p1.toNatClampNeg)), (0, .ref (ob G 2)), (1, .int p0), (2, .int p1), (3, .ref (ob G 1)), (4, .int p3)] dK_holdsAllDown_72 (by decide) rfl ?_
        refine x_iload C dK_holdsAllDown_74 1 rfl ?_
        refine x_iconst (v := (-1)) C dK_holdsAllDown_76 (by decide) ?_
        refine x_icmp_eq (tgt := 96) C dK_holdsAllDown_77 (by decide) (fun g12 => ?_) (fun g12 => ?_)
        · have h := h.1 g12
          refine x_sub [5, 8, 9, 2, 0] rfl ?_
          exact tK_holdsAllDown_B_J96 C hA hlocks hr hT p3 z9 (ar r 3 p1.toNatClampNeg) h
        · have h := h.2 g12
          refine x_aload_n C dK_holdsAllDown_80 rfl 5 rfl ?_
          refine x_iload C dK_holdsAllDown_81 3 rfl ?_
          refine x_iload C dK_holdsAllDown_83 1 rfl ?_
          refine x_aload_n C dK_holdsAllDown_85 rfl 8 rfl ?_
          refine x_iload C dK_holdsAllDown_86 9 rfl ?_
          refine x_iconst (v := 1) C dK_holdsAllDown_88 (by decide) ?_
          refine x_iadd C dK_holdsAllDown_89 ?_
          refine kkK_holdsAllDown C wm685 ⟨by show 2 * d + 3 + 1 ≤ 2 * (d + 1) + 3; omega, by show 8 + (10 + 11) + (29 * d + 46) ≤ 29 * (d + 1) + 46; omega⟩ (Nat.le_of_ble_eq_true rfl) dK_holdsAllDown_90 ⟨Nat.zero_le _, Nat.zero_le _⟩ (hT _ z8 (ar r 2 p1.toNatClampNeg) (p3 + 1) h) (fun z18 hzz18 h => ?_)
          have h := h hzz18
          refine x_if_eq (tgt := 122) C dK_holdsAllDown_93 (by decide) (fun g19 => ?_) (fun g19 => ?_)
          · have h := h.1 g19
            refine x_iconst (v := 0) C dK_holdsAllDown_122 (by decide) ?_
            obtain ⟨g20, h⟩ := h
            exact x_zret C hA hlocks hr (zb_n g20) ⟨rfl, g20, h⟩ dK_holdsAllDown_123
          · have h := h.2 g19
            refine x_sub [5, 8, 9, 2, 0] rfl ?_
            exact tK_holdsAllDown_B_J96 C hA hlocks hr hT p3 z9 (ar r 3 p1.toNatClampNeg) h
      · have h := h.2 g7
        refine x_iconst (v := 0) C dK_holdsAllDown_30 (by decide) ?_
        obtain ⟨g21, h⟩ := h
        exact x_zret C hA hlocks hr (zb_n g21) ⟨rfl, g21, h⟩ dK_holdsAllDown_31
def qK_holdsAllDown (a : L_) (r : S_) : Nat → (Int32 → Prop) → Int32 → Int32 → Int32 → Prop
  | 0, _, _, _, _ => False
  | d + 1, K, p0, p1, p3 => qK_holdsAllDown_B a r (qK_holdsAllDown a r d) K p0 p1 p3
set_option maxRecDepth 100000 in
set_option maxHeartbeats 4000000 in
theorem rK_holdsAllDown {a : L_} {r : S_} : ∀ d : Nat, ∀ (K : Int32 → Prop) (p0 : Int32) (p1 : Int32) (p3 : Int32), qK_holdsAllDown a r d K p0 p1 p3 → vx_Mi l yK_holdsAllDown (Cond.code yK_holdsAllDown prog_2_method_15_code 10 (some .boolean) :: wAll) { frames := 2 * d + 3, cells := 0, slots := 0, locals := 29 * d + 46 } D vwCl (tysG G) nwAll (wo G a r) [.ref (ob G 2), .int p0, .int p1, .ref (ob G 1), .int p3] 0 0 (fun v w => w = wo G a r ∧ zb v ∧ K v) := by
  intro d
  induction d with
  | zero =>
    intro K p0 p1 p3 h
    rw [qK_holdsAllDown] at h
    exact h.elim
  | succ d ih =>
    intro K p0 p1 p3 h
    rw [qK_holdsAllDown] at h
    exact cK_holdsAllDown_B ih p0 p1 p3 h
set_option maxRecDepth 100000 in
set_option maxHeartbeats 4000000 in
theorem kK_holdsAllDown {p : Program} {l : Launch} {e : Env} {R : Room} {s : State} {m : MethodId} {args : Array Value} {below : List Frame} {meth : Method} {c : Code} {cells slots : Nat} {Q : State → Prop} {A : Nat → Prop} {D : va_G} {nL pc : Nat} {cc : ByteArray} {cw : Cond} {own : String} {lv : List (Nat × Value)} {st : List Value} {G : G_} {a : L_} {r : S_} {d : Nat} {K : Int32 → Prop} {p0 : Int32} {p1 : Int32} {p3 : Int32} (C : vx_C p s m args c cc nL (cw :: wAll) own D vwCl (tysG G) nwAll A) {i : Nat} (hl : Cond.methodLink own i yK_holdsAllDown ∈ wAll) (hR : (2 * d + 3) + 1 ≤ R.frames ∧ 8 + (10 + 11) + (29 * d + 46) ≤ R.locals) (hst : (st.map fun v => v.category).sum ≤ 8) (hd : decode cc pc = .ok (.invokevirtual i, 3)) (hcs : cells ≤ R.cells ∧ slots ≤ R.slots) (h : qK_holdsAllDown a r d K p0 p1 p3) (k : ∀ (v : Int32), zb v → K v → vx_V p l e R s m args below meth c A D vwCl nL cells slots Q (wo G a r) (pc + 3) lv (.int v :: st)) : vx_V p l e R s m args below meth c A D vwCl nL cells slots Q (wo G a r) pc lv (.int p3 :: .ref (ob G 1) :: .int p1 :: .int p0 :: .ref (ob G 2) :: st) := by
  refine x_callVi C (CC := "ClassInference$ClassTable") (ci := 2) (q0 := 2) (fs := fl2 G a r) (As := [.int p0, .int p1, .ref (ob G 1), .int p3]) rfl rfl (rK_holdsAllDown d K p0 p1 p3 h) (cwV (C := "ClassInference$ClassTable") 4 C.1.2.2.2.2 (goodV hl wm687 wp29 wm3 wm688) rfl rfl rfl (by decide +kernel) hR) rfl hst hd hcs (fun v w hw => ?_)
  obtain ⟨rfl, h⟩ := hw
  exact k v h.1 h.2
def qK_holdsAll (a : L_) (r : S_) (K : Int32 → Prop) (p0 : Int32) (p1 : Int32) : Prop :=
  qK_holdsAllDown a r 19 (fun z1 => zb z1 → zb z1 ∧ K z1) p0 p1 0
set_option maxRecDepth 100000 in
set_option maxHeartbeats 4000000 in
theorem cK_holdsAll {a : L_} {r : S_} {K : Int32 → Prop} (p0 : Int32) (p1 : Int32) (h : qK_holdsAll a r K p0 p1) : vx_Mi l yK_holdsAll (Cond.code yK_holdsAll prog_2_method_14_code 4 (some .boolean) :: wAll) { frames := 42, cells := 0, slots := 0, locals := 626 } D vwCl (tysG G) nwAll (wo G a r) [.ref (ob G 2), .int p0, .int p1, .ref (ob G 1)] 0 0 (fun v w => w = wo G a r ∧ zb v ∧ K v) := by
  unfold qK_holdsAll at h
  refine x_meti (cc := prog_2_method_14_code) (maxL := 4) (ret := (some .boolean)) (lv0 := [(0, .ref (ob G 2)), (1, .int p0), (2, .int p1), (3, .ref (ob G 1))]) (by decide) rfl (Nat.le_of_ble_eq_true rfl) rfl ?_
  intro p e s m args below meth c A C hA hlocks hr
  refine x_aload_n C dK_holdsAll_0 rfl 0 rfl ?_
  refine x_iload_n C dK_holdsAll_1 rfl 1 rfl ?_
  refine x_iload_n C dK_holdsAll_2 rfl 2 rfl ?_
  refine x_aload_n C dK_holdsAll_3 rfl 3 rfl ?_
  refine x_iconst (v := 0) C dK_holdsAll_4 (by decide) ?_
  refine kK_holdsAllDown (d := 19) C wm685 ⟨Nat.le_of_ble_eq_true rfl, Nat.le_of_ble_eq_true rfl⟩ (Nat.le_of_ble_eq_true rfl) dK_holdsAll_5 ⟨Nat.zero_le _, Nat.zero_le _⟩ h (fun z1 hzz1 h => ?_)
  have h := h hzz1
  obtain ⟨g2, h⟩ := h
  exact x_zret C hA hlocks hr (zb_n g2) ⟨rfl, g2, h⟩ dK_holdsAll_8
set_option maxRecDepth 100000 in
set_option maxHeartbeats 4000000 in
theorem kK_holdsAll {p : Program} {l : Launch} {e : Env} {R : Room} {s : State} {m : MethodId} {args : Array Value} {below : List Frame} {meth : Method} {c : Code} {cells slots : Nat} {Q : State → Prop} {A : Nat → Prop} {D : va_G} {nL pc : Nat} {cc : ByteArray} {cw : Cond} {own : String} {lv : List (Nat × Value)} {st : List Value} {G : G_} {a : L_} {r : S_} {K : Int32 → Prop} {p0 : Int32} {p1 : Int32} (C : vx_C p s m args c cc nL (cw :: wAll) own D vwCl (tysG G) nwAll A) {i : Nat} (hl : Cond.methodLink own i yK_holdsAll ∈ wAll) (hR : 42 + 1 ≤ R.frames ∧ 8 + (4 + 11) + 626 ≤ R.locals) (hst : (st.map fun v => v.category).sum ≤ 8) (hd : decode cc pc = .ok (.invokevirtual i, 3)) (hcs : cells ≤ R.cells ∧ slots ≤ R.slots) (h : qK_holdsAll a r K p0 p1) (k : ∀ (v : Int32), zb v → K v → vx_V p l e R s m args below meth c A D vwCl nL cells slots Q (wo G a r) (pc + 3) lv (.int v :: st)) : vx_V p l e R s m args below meth c A D vwCl nL cells slots Q (wo G a r) pc lv (.ref (ob G 1) :: .int p1 :: .int p0 :: .ref (ob G 2) :: st) := by
  refine x_callVi C (CC := "ClassInference$ClassTable") (ci := 2) (q0 := 2) (fs := fl2 G a r) (As := [.int p0, .int p1, .ref (ob G 1)]) rfl rfl (cK_holdsAll p0 p1 h) (cwV (C := "ClassInference$ClassTable") 3 C.1.2.2.2.2 (goodV hl wm682 wm683 wm3 wm684) rfl rfl rfl (by decide +kernel) hR) rfl hst hd hcs (fun v w hw => ?_)
  obtain ⟨rfl, h⟩ := hw
  exact k v h.1 h.2
set_option maxRecDepth 100000 in
set_option maxHeartbeats 4000000 in
theorem kkY_writeOut {p : Program} {l : Launch} {e : Env} {R : Room} {s : State} {m : MethodId} {args : Array Value} {below : List Frame} {meth : Method} {c : Code} {cells slots : Nat} {Q : State → Prop} {A : Nat → Prop} {D : va_G} {nL pc : Nat} {cc : ByteArray} {cw : Cond} {own : String} {lv : List (Nat × Value)} {st : List Value} {G : G_} {a : L_} {r : S_} {kc : Nat} {ks : Nat} {F Lc : Nat} {K : Int32 → L_ → S_ → Prop} {p0 : Int32} (C : vx_C p s m args c cc nL (cw :: wAll) own D vwCl (tysG G) nwAll A) {i : Nat} (hl : Cond.methodLink own i yY_writeOut ∈ wAll) (hR : F + 1 ≤ R.frames ∧ 8 + (7 + 11) + Lc ≤ R.locals) (hst : (st.map fun v => v.category).sum ≤ 8) (hd : decode cc pc = .ok (.invokevirtual i, 3)) (hcs : cells + kc ≤ R.cells ∧ slots + ks ≤ R.slots) (h : vx_Mi l yY_writeOut (Cond.code yY_writeOut prog_7_method_12_code 7 (some .int) :: wAll) { frames := F, cells := kc, slots := ks, locals := Lc } D vwCl (tysG G) nwAll (wo G a r) [.ref (ob G 4), .int p0] kc ks (fun v w => ∃ a1 r1, w = wo G a1 r1 ∧ K v a1 r1)) (k : ∀ (v : Int32) (a1 : L_) (r1 : S_), K v a1 r1 → vx_V p l e R s m args below meth c A D vwCl nL (cells + kc) (slots + ks) Q (wo G a1 r1) (pc + 3) lv (.int v :: st)) : vx_V p l e R s m args below meth c A D vwCl nL cells slots Q (wo G a r) pc lv (.int p0 :: .ref (ob G 4) :: st) := by
  refine x_callVi C (CC := "ClassInference$Typer") (ci := 4) (q0 := 4) (fs := fl4 G a r) (As := [.int p0]) rfl rfl h (cwV (C := "ClassInference$Typer") 1 C.1.2.2.2.2 (goodV hl wm582 wp25 wm6 wm583) rfl rfl rfl (by decide +kernel) hR) rfl hst hd hcs (fun v w hw => ?_)
  obtain ⟨a1, r1, rfl, h⟩ := hw
  exact k v a1 r1 h
def qY_writeOut_B_J113 (T : (Int32 → L_ → S_ → Prop) → L_ → S_ → Nat → Nat → Int32 → Prop) (K : Int32 → L_ → S_ → Prop) (a : L_) (r : S_) (kc : Nat) (ks : Nat) (v2 : Int32) (v5 : Int32) (u0 : Int32) : Prop :=
  ∃ k24 s26 k25 s27 : Nat, k24 + k25 = kc ∧ s26 + s27 = ks ∧ qG_newNode (fun z21 a23 r22 => K z21 a23 r22) a r k24 s26 v2 v5 u0
set_option maxRecDepth 100000 in
set_option maxHeartbeats 4000000 in
theorem tY_writeOut_B_J113 (C : vx_C p s m args c prog_7_method_12_code 7 (Cond.code yY_writeOut prog_7_method_12_code 7 (some .int) :: wAll) "ClassInference$Typer" D vwCl (tysG G) nwAll A) (hA : A = va_A ws0 s.heap.size) (hlocks : meth.locks = false) (hr : meth.sig.returnType = (some .int)) {T : (Int32 → L_ → S_ → Prop) → L_ → S_ → Nat → Nat → Int32 → Prop} {d : Nat} (hT : ∀ (K : Int32 → L_ → S_ → Prop) (a : L_) (r : S_) (kc ks : Nat) (p0 : Int32), T K a r kc ks p0 → vx_Mi l yY_writeOut (Cond.code yY_writeOut prog_7_method_12_code 7 (some .int) :: wAll) { frames := 2 * d + 5, cells := kc, slots := ks, locals := 26 * d + 93 } D vwCl (tysG G) nwAll (wo G a r) [.ref (ob G 4), .int p0] kc ks (fun v w => ∃ a1 r1, w = wo G a1 r1 ∧ K v a1 r1)) {K : Int32 → L_ → S_ → Prop} (a : L_) (r : S_) (kc : Nat) (ks : Nat) (v2 : Int32) (v5 : Int32) (u0 : Int32) (u v : Nat) (hu : u + kc ≤ mc) (hv : v + ks ≤ ms) (h : qY_writeOut_B_J113 T K a r kc ks v2 v5 u0) : vx_V p l e { frames := 2 * (d + 1) + 5, cells := mc, slots := ms, locals := 26 * (d + 1) + 93 } s m args below meth c A D vwCl 7 u v (MQ below (va_Qi (fun v w => ∃ a1 r1, w = wo G a1 r1 ∧ K v a1 r1) (vx_B D vwCl (tysG G) A) A) args s mc ms A) (wo G a r) 113 [(0, .ref (ob G 4)), (2, .int v2), (5, .int v5)] [.int u0] := by
  unfold qY_writeOut_B_J113 at h
  refine x_istore C [(6, .int u0), (0, .ref (ob G 4)), (2, .int v2), (5, .int v5)] dY_writeOut_113 (by decide) rfl ?_
  refine x_aload_n C dY_writeOut_115 rfl 1 rfl ?_
  refine gf_4_3 C (List.mem_cons_of_mem _ wm203) dY_writeOut_116 ?_
  refine x_iload_n C dY_writeOut_119 rfl 2 rfl ?_
  refine x_iload C dY_writeOut_120 3 rfl ?_
  refine x_iload C dY_writeOut_122 0 rfl ?_
  obtain ⟨k24, s26, k25, s27, e28, e29, h⟩ := h
  have hu9 : u + k24 ≤ mc := by omega
  have hv9 : v + s26 ≤ ms := by omega
  refine kG_newNode C wm439 ⟨by show 3 + 1 ≤ 2 * (d + 1) + 5; omega, by show 8 + (4 + 11) + (70) ≤ 26 * (d + 1) + 93; omega⟩ (Nat.le_of_ble_eq_true rfl) dY_writeOut_124 ⟨hu9, hv9⟩ h (fun z21 a23 r22 h => ?_)
  have hu : (u + k24) + k25 ≤ mc := by omega
  have hv : (v + s26) + s27 ≤ ms := by omega
  refine x_widen (k1 := mc) (n1 := ms) (by omega) (by omega) ?_
  exact x_iret C hA hlocks hr ⟨a23, r22, rfl, h⟩ dY_writeOut_127
def qY_writeOut_B_J95 (T : (Int32 → L_ → S_ → Prop) → L_ → S_ → Nat → Nat → Int32 → Prop) (K : Int32 → L_ → S_ → Prop) (a : L_) (r : S_) (kc : Nat) (ks : Nat) (v2 : Int32) (v4 : Int32) (u0 : Int32) : Prop :=
  ((¬ v4 = (-1)) → ∃ k17 s19 k18 s20 : Nat, k17 + k18 = kc ∧ s19 + s20 = ks ∧ T (fun z14 a16 r15 => qY_writeOut_B_J113 T K a16 r15 k18 s20 v2 u0 z14) a r k17 s19 v4) ∧ ((v4 = (-1)) → qY_writeOut_B_J113 T K a r kc ks v2 u0 (-1))
set_option maxRecDepth 100000 in
set_option maxHeartbeats 4000000 in
theorem tY_writeOut_B_J95 (C : vx_C p s m args c prog_7_method_12_code 7 (Cond.code yY_writeOut prog_7_method_12_code 7 (some .int) :: wAll) "ClassInference$Typer" D vwCl (tysG G) nwAll A) (hA : A = va_A ws0 s.heap.size) (hlocks : meth.locks = false) (hr : meth.sig.returnType = (some .int)) {T : (Int32 → L_ → S_ → Prop) → L_ → S_ → Nat → Nat → Int32 → Prop} {d : Nat} (hT : ∀ (K : Int32 → L_ → S_ → Prop) (a : L_) (r : S_) (kc ks : Nat) (p0 : Int32), T K a r kc ks p0 → vx_Mi l yY_writeOut (Cond.code yY_writeOut prog_7_method_12_code 7 (some .int) :: wAll) { frames := 2 * d + 5, cells := kc, slots := ks, locals := 26 * d + 93 } D vwCl (tysG G) nwAll (wo G a r) [.ref (ob G 4), .int p0] kc ks (fun v w => ∃ a1 r1, w = wo G a1 r1 ∧ K v a1 r1)) {K : Int32 → L_ → S_ → Prop} (a : L_) (r : S_) (kc : Nat) (ks : Nat) (v2 : Int32) (v4 : Int32) (u0 : Int32) (u v : Nat) (hu : u + kc ≤ mc) (hv : v + ks ≤ ms) (h : qY_writeOut_B_J95 T K a r kc ks v2 v4 u0) : vx_V p l e { frames := 2 * (d + 1) + 5, cells := mc, slots := ms, locals := 26 * (d + 1) + 93 } s m args below meth c A D vwCl 7 u v (MQ below (va_Qi (fun v w => ∃ a1 r1, w = wo G a1 r1 ∧ K v a1 r1) (vx_B D vwCl (tysG G) A) A) args s mc ms A) (wo G a r) 95 [(0, .ref (ob G 4)), (2, .int v2), (4, .int v4)] [.int u0] := by
  unfold qY_writeOut_B_J95 at h
  refine x_istore C [(5, .int u0), (0, .ref (ob G 4)), (2, .int v2), (4, .int v4)] dY_writeOut_95 (by decide) rfl ?_
  refine x_iload C dY_writeOut_97 3 rfl ?_
  refine x_iconst (v := (-1)) C dY_writeOut_99 (by decide) ?_
  refine x_icmp_ne (tgt := 107) C dY_writeOut_100 (by decide) (fun g13 => ?_) (fun g13 => ?_)
  · have h := h.1 g13
    refine x_aload_n C dY_writeOut_107 rfl 1 rfl ?_
    refine x_iload C dY_writeOut_108 3 rfl ?_
    obtain ⟨k17, s19, k18, s20, e30, e31, h⟩ := h
    have hu9 : u + k17 ≤ mc := by omega
    have hv9 : v + s19 ≤ ms := by omega
    refine kkY_writeOut C wm580 ⟨by show 2 * d + 5 + 1 ≤ 2 * (d + 1) + 5; omega, by show 8 + (7 + 11) + (26 * d + 93) ≤ 26 * (d + 1) + 93; omega⟩ (Nat.le_of_ble_eq_true rfl) dY_writeOut_110 ⟨hu9, hv9⟩ (hT _ a r k17 s19 v4 h) (fun z14 a16 r15 h => ?_)
    have hu : (u + k17) + k18 ≤ mc := by omega
    have hv : (v + s19) + s20 ≤ ms := by omega
    refine x_sub [1, 2, 0] rfl ?_
    exact tY_writeOut_B_J113 C hA hlocks hr hT a16 r15 k18 s20 v2 u0 z14 _ _ hu hv h
  · have h := h.2 g13
    refine x_iconst (v := (-1)) C dY_writeOut_103 (by decide) ?_
    refine x_goto (tgt := 113) C dY_writeOut_104 (by decide) ?_
    refine x_sub [1, 2, 0] rfl ?_
    exact tY_writeOut_B_J113 C hA hlocks hr hT a r kc ks v2 u0 (-1) _ _ hu hv h
def qY_writeOut_B_J52 (T : (Int32 → L_ → S_ → Prop) → L_ → S_ → Nat → Nat → Int32 → Prop) (K : Int32 → L_ → S_ → Prop) (a : L_) (r : S_) (kc : Nat) (ks : Nat) (v3 : Int32) (u0 : Int32) (u1 : Int32) : Prop :=
  vp_in u1 (ln a 20) ∧ ∀ r38 : S_, r38 = sA r 20 (upd (ar r 20) u1.toNatClampNeg u0) → vp_in v3 (ln a 20) ∧ K (ar r38 20 v3.toNatClampNeg) a r38
set_option maxRecDepth 100000 in
set_option maxHeartbeats 4000000 in
theorem tY_writeOut_B_J52 (C : vx_C p s m args c prog_7_method_12_code 7 (Cond.code yY_writeOut prog_7_method_12_code 7 (some .int) :: wAll) "ClassInference$Typer" D vwCl (tysG G) nwAll A) (hA : A = va_A ws0 s.heap.size) (hlocks : meth.locks = false) (hr : meth.sig.returnType = (some .int)) {T : (Int32 → L_ → S_ → Prop) → L_ → S_ → Nat → Nat → Int32 → Prop} {d : Nat} (hT : ∀ (K : Int32 → L_ → S_ → Prop) (a : L_) (r : S_) (kc ks : Nat) (p0 : Int32), T K a r kc ks p0 → vx_Mi l yY_writeOut (Cond.code yY_writeOut prog_7_method_12_code 7 (some .int) :: wAll) { frames := 2 * d + 5, cells := kc, slots := ks, locals := 26 * d + 93 } D vwCl (tysG G) nwAll (wo G a r) [.ref (ob G 4), .int p0] kc ks (fun v w => ∃ a1 r1, w = wo G a1 r1 ∧ K v a1 r1)) {K : Int32 → L_ → S_ → Prop} (a : L_) (r : S_) (kc : Nat) (ks : Nat) (v3 : Int32) (u0 : Int32) (u1 : Int32) (u v : Nat) (hu : u + kc ≤ mc) (hv : v + ks ≤ ms) (h : qY_writeOut_B_J52 T K a r kc ks v3 u0 u1) : vx_V p l e { frames := 2 * (d + 1) + 5, cells := mc, slots := ms, locals := 26 * (d + 1) + 93 } s m args below meth c A D vwCl 7 u v (MQ below (va_Qi (fun v w => ∃ a1 r1, w = wo G a1 r1 ∧ K v a1 r1) (vx_B D vwCl (tysG G) A) A) args s mc ms A) (wo G a r) 52 [(0, .ref (ob G 4)), (3, .int v3)] [.int u0, .int u1, .ref (ad a 20)] := by
  unfold qY_writeOut_B_J52 at h
  obtain ⟨g37, h⟩ := h
  refine y_is C 20 (by decide) g37 dY_writeOut_52 (fun r38 er38 => ?_)
  have h := h r38 er38
  refine x_aload_n C dY_writeOut_53 rfl 0 rfl ?_
  refine gf_4_8 C (List.mem_cons_of_mem _ wm208) dY_writeOut_54 ?_
  refine x_iload_n C dY_writeOut_57 rfl 1 rfl ?_
  obtain ⟨g39, h⟩ := h
  refine y_ia C 20 (by decide) g39 dY_writeOut_58 ?_
  refine x_widen (k1 := mc) (n1 := ms) (by omega) (by omega) ?_
  exact x_iret C hA hlocks hr ⟨a, r38, rfl, h⟩ dY_writeOut_59
def qY_writeOut_B (T : (Int32 → L_ → S_ → Prop) → L_ → S_ → Nat → Nat → Int32 → Prop) (K : Int32 → L_ → S_ → Prop) (a : L_) (r : S_) (kc0 : Nat) (ks0 : Nat) (p0 : Int32) : Prop :=
  vp_in p0 (ln a 1) ∧ ((0 ≤ (ar r 1 p0.toNatClampNeg)) → vp_in p0 (ln a 2) ∧ vp_in p0 (ln a 3) ∧ ((¬ (ar r 2 p0.toNatClampNeg) = (-1)) → ∃ k9 s11 k10 s12 : Nat, k9 + k10 = kc0 ∧ s11 + s12 = ks0 ∧ T (fun z6 a8 r7 => qY_writeOut_B_J95 T K a8 r7 k10 s12 (ar r 1 p0.toNatClampNeg) (ar r 3 p0.toNatClampNeg) z6) a r k9 s11 (ar r 2 p0.toNatClampNeg)) ∧ (((ar r 2 p0.toNatClampNeg) = (-1)) → qY_writeOut_B_J95 T K a r kc0 ks0 (ar r 1 p0.toNatClampNeg) (ar r 3 p0.toNatClampNeg) (-1))) ∧ ((¬ 0 ≤ (ar r 1 p0.toNatClampNeg)) → vp_in ((-1) - (ar r 1 p0.toNatClampNeg)) (ln a 20) ∧ ((¬ (ar r 20 ((-1) - (ar r 1 p0.toNatClampNeg)).toNatClampNeg) = (-1)) → vp_in ((-1) - (ar r 1 p0.toNatClampNeg)) (ln a 20) ∧ qY_writeOut_B_J52 T K a r kc0 ks0 ((-1) - (ar r 1 p0.toNatClampNeg)) (ar r 20 ((-1) - (ar r 1 p0.toNatClampNeg)).toNatClampNeg) ((-1) - (ar r 1 p0.toNatClampNeg))) ∧ (((ar r 20 ((-1) - (ar r 1 p0.toNatClampNeg)).toNatClampNeg) = (-1)) → ∃ k43 s45 k44 s46 : Nat, k43 + k44 = kc0 ∧ s45 + s46 = ks0 ∧ qG_newNode (fun z40 a42 r41 => qY_writeOut_B_J52 T K a42 r41 k44 s46 ((-1) - (ar r 1 p0.toNatClampNeg)) z40 ((-1) - (ar r 1 p0.toNatClampNeg))) a r k43 s45 (-1) (-1) (-1)))
set_option maxRecDepth 100000 in
set_option maxHeartbeats 4000000 in
theorem cY_writeOut_B {T : (Int32 → L_ → S_ → Prop) → L_ → S_ → Nat → Nat → Int32 → Prop} {a : L_} {r : S_} {kc0 : Nat} {ks0 : Nat} {K : Int32 → L_ → S_ → Prop} {d : Nat} (hT : ∀ (K : Int32 → L_ → S_ → Prop) (a : L_) (r : S_) (kc ks : Nat) (p0 : Int32), T K a r kc ks p0 → vx_Mi l yY_writeOut (Cond.code yY_writeOut prog_7_method_12_code 7 (some .int) :: wAll) { frames := 2 * d + 5, cells := kc, slots := ks, locals := 26 * d + 93 } D vwCl (tysG G) nwAll (wo G a r) [.ref (ob G 4), .int p0] kc ks (fun v w => ∃ a1 r1, w = wo G a1 r1 ∧ K v a1 r1)) (p0 : Int32) (h : qY_writeOut_B T K a r kc0 ks0 p0) : vx_Mi l yY_writeOut (Cond.code yY_writeOut prog_7_method_12_code 7 (some .int) :: wAll) { frames := 2 * (d + 1) + 5, cells := kc0, slots := ks0, locals := 26 * (d + 1) + 93 } D vwCl (tysG G) nwAll (wo G a r) [.ref (ob G 4), .int p0] kc0 ks0 (fun v w => ∃ a1 r1, w = wo G a1 r1 ∧ K v a1 r1) := by
  unfold qY_writeOut_B at h
  refine x_meti (cc := prog_7_method_12_code) (maxL := 7) (ret := (some .int)) (lv0 := [(0, .ref (ob G 4)), (1, .int p0)]) (by decide) rfl (Nat.le_of_ble_eq_true rfl) rfl ?_
  intro p e s m args below meth c A C hA hlocks hr
  have hu : 0 + kc0 ≤ kc0 := by omega
  have hv : 0 + ks0 ≤ ks0 := by omega
  refine x_aload_n C dY_writeOut_0 rfl 0 rfl ?_
  refine gf_4_0 C (List.mem_cons_of_mem _ wm200) dY_writeOut_1 ?_
  refine gn_1_2 C wn30 dY_writeOut_4 ?_
  refine x_iload_n C dY_writeOut_7 rfl 1 rfl ?_
  obtain ⟨g1, h⟩ := h
  refine y_ia C 1 (by decide) g1 dY_writeOut_8 ?_
  refine x_istore_n C [(2, .int (ar r 1 p0.toNatClampNeg)), (0, .ref (ob G 4)), (1, .int p0)] dY_writeOut_9 rfl (by decide) rfl ?_
  refine x_iload_n C dY_writeOut_10 rfl 0 rfl ?_
  refine x_if_ge (tgt := 60) C dY_writeOut_11 (by decide) (fun g2 => ?_) (fun g2 => ?_)
  · have h := h.1 g2
    refine x_aload_n C dY_writeOut_60 rfl 1 rfl ?_
    refine gf_4_0 C (List.mem_cons_of_mem _ wm200) dY_writeOut_61 ?_
    refine gn_1_3 C wn33 dY_writeOut_64 ?_
    refine x_iload_n C dY_writeOut_67 rfl 2 rfl ?_
    obtain ⟨g3, h⟩ := h
    refine y_ia C 2 (by decide) g3 dY_writeOut_68 ?_
    refine x_istore_n C [(3, .int (ar r 2 p0.toNatClampNeg)), (2, .int (ar r 1 p0.toNatClampNeg)), (0, .ref (ob G 4)), (1, .int p0)] dY_writeOut_69 rfl (by decide) rfl ?_
    refine x_aload_n C dY_writeOut_70 rfl 2 rfl ?_
    refine gf_4_0 C (List.mem_cons_of_mem _ wm200) dY_writeOut_71 ?_
    refine gn_1_4 C wn36 dY_writeOut_74 ?_
    refine x_iload_n C dY_writeOut_77 rfl 3 rfl ?_
    obtain ⟨g4, h⟩ := h
    refine y_ia C 3 (by decide) g4 dY_writeOut_78 ?_
    refine x_istore C [(4, .int (ar r 3 p0.toNatClampNeg)), (3, .int (ar r 2 p0.toNatClampNeg)), (2, .int (ar r 1 p0.toNatClampNeg)), (0, .ref (ob G 4)), (1, .int p0)] dY_writeOut_79 (by decide) rfl ?_
    refine x_iload_n C dY_writeOut_81 rfl 1 rfl ?_
    refine x_iconst (v := (-1)) C dY_writeOut_82 (by decide) ?_
    refine x_icmp_ne (tgt := 90) C dY_writeOut_83 (by decide) (fun g5 => ?_) (fun g5 => ?_)
    · have h := h.1 g5
      refine x_aload_n C dY_writeOut_90 rfl 3 rfl ?_
      refine x_iload_n C dY_writeOut_91 rfl 1 rfl ?_
      obtain ⟨k9, s11, k10, s12, e32, e33, h⟩ := h
      have hu9 : 0 + k9 ≤ kc0 := by omega
      have hv9 : 0 + s11 ≤ ks0 := by omega
      refine kkY_writeOut C wm580 ⟨by show 2 * d + 5 + 1 ≤ 2 * (d + 1) + 5; omega, by show 8 + (7 + 11) + (26 * d + 93) ≤ 26 * (d + 1) + 93; omega⟩ (Nat.le_of_ble_eq_true rfl) dY_writeOut_92 ⟨hu9, hv9⟩ (hT _ a r k9 s11 (ar r 2 p0.toNatClampNeg) h) (fun z6 a8 r7 h => ?_)
      have hu : (0 + k9) + k10 ≤ kc0 := by omega
      have hv : (0 + s11) + s12 ≤ ks0 := by omega
      refine x_sub [3, 2, 0] rfl ?_
      exact tY_writeOut_B_J95 C hA hlocks hr hT a8 r7 k10 s12 (ar r 1 p0.toNatClampNeg) (ar r 3 p0.toNatClampNeg) z6 _ _ hu hv h
    · have h := h.2 g5
      refine x_iconst (v := (-1)) C dY_writeOut_86 (by decide) ?_
      refine x_goto (tgt := 95) C dY_writeOut_87 (by decide) ?_
      refine x_sub [3, 2, 0] rfl ?_
      exact tY_writeOut_B_J95 C hA hlocks hr hT a r kc0 ks0 (ar r 1 p0.toNatClampNeg) (ar r 3 p0.toNatClampNeg) (-1) _ _ hu hv h
  · have h := h.2 g2
    refine x_iconst (v := (-1)) C dY_writeOut_14 (by decide) ?_
    refine x_iload_n C dY_writeOut_15 rfl 0 rfl ?_
    refine x_isub C dY_writeOut_16 ?_
    refine x_istore_n C [(3, .int ((-1) - (ar r 1 p0.toNatClampNeg))), (2, .int (ar r 1 p0.toNatClampNeg)), (0, .ref (ob G 4)), (1, .int p0)] dY_writeOut_17 rfl (by decide) rfl ?_
    refine x_aload_n C dY_writeOut_18 rfl 2 rfl ?_
    refine gf_4_8 C (List.mem_cons_of_mem _ wm208) dY_writeOut_19 ?_
    refine x_iload_n C dY_writeOut_22 rfl 0 rfl ?_
    refine x_aload_n C dY_writeOut_23 rfl 2 rfl ?_
    refine gf_4_8 C (List.mem_cons_of_mem _ wm208) dY_writeOut_24 ?_
    refine x_iload_n C dY_writeOut_27 rfl 0 rfl ?_
    obtain ⟨g34, h⟩ := h
    refine y_ia C 20 (by decide) g34 dY_writeOut_28 ?_
    refine x_iconst (v := (-1)) C dY_writeOut_29 (by decide) ?_
    refine x_icmp_ne (tgt := 46) C dY_writeOut_30 (by decide) (fun g35 => ?_) (fun g35 => ?_)
    · have h := h.1 g35
      refine x_aload_n C dY_writeOut_46 rfl 2 rfl ?_
      refine gf_4_8 C (List.mem_cons_of_mem _ wm208) dY_writeOut_47 ?_
      refine x_iload_n C dY_writeOut_50 rfl 0 rfl ?_
      obtain ⟨g36, h⟩ := h
      refine y_ia C 20 (by decide) g36 dY_writeOut_51 ?_
      refine x_sub [2, 0] rfl ?_
      exact tY_writeOut_B_J52 C hA hlocks hr hT a r kc0 ks0 ((-1) - (ar r 1 p0.toNatClampNeg)) (ar r 20 ((-1) - (ar r 1 p0.toNatClampNeg)).toNatClampNeg) ((-1) - (ar r 1 p0.toNatClampNeg)) _ _ hu hv h
    · have h := h.2 g35
      refine x_aload_n C dY_writeOut_33 rfl 2 rfl ?_
      refine gf_4_3 C (List.mem_cons_of_mem _ wm203) dY_writeOut_34 ?_
      refine x_iconst (v := (-1)) C dY_writeOut_37 (by decide) ?_
      refine x_iconst (v := (-1)) C dY_writeOut_38 (by decide) ?_
      refine x_iconst (v := (-1)) C dY_writeOut_39 (by decide) ?_
      obtain ⟨k43, s45, k44, s46, e47, e48, h⟩ := h
      have hu9 : 0 + k43 ≤ kc0 := by omega
      have hv9 : 0 + s45 ≤ ks0 := by omega
      refine kG_newNode C wm439 ⟨by show 3 + 1 ≤ 2 * (d + 1) + 5; omega, by show 8 + (4 + 11) + (70) ≤ 26 * (d + 1) + 93; omega⟩ (Nat.le_of_ble_eq_true rfl) dY_writeOut_40 ⟨hu9, hv9⟩ h (fun z40 a42 r41 h => ?_)
      have hu : (0 + k43) + k44 ≤ kc0 := by omega
      have hv : (0 + s45) + s46 ≤ ks0 := by omega
      refine x_goto (tgt := 52) C dY_writeOut_43 (by decide) ?_
      refine x_sub [2, 0] rfl ?_
      exact tY_writeOut_B_J52 C hA hlocks hr hT a42 r41 k44 s46 ((-1) - (ar r 1 p0.toNatClampNeg)) z40 ((-1) - (ar r 1 p0.toNatClampNeg)) _ _ hu hv h
def qY_writeOut : Nat → (Int32 → L_ → S_ → Prop) → L_ → S_ → Nat → Nat → Int32 → Prop
  | 0, _, _, _, _, _, _ => False
  | d + 1, K, a, r, kc, ks, p0 => qY_writeOut_B (qY_writeOut d) K a r kc ks p0
set_option maxRecDepth 100000 in
set_option maxHeartbeats 4000000 in
theorem rY_writeOut : ∀ d : Nat, ∀ (K : Int32 → L_ → S_ → Prop) (a : L_) (r : S_) (kc ks : Nat) (p0 : Int32), qY_writeOut d K a r kc ks p0 → vx_Mi l yY_writeOut (Cond.code yY_writeOut prog_7_method_12_code 7 (some .int) :: wAll) { frames := 2 * d + 5, cells := kc, slots := ks, locals := 26 * d + 93 } D vwCl (tysG G) nwAll (wo G a r) [.ref (ob G 4), .int p0] kc ks (fun v w => ∃ a1 r1, w = wo G a1 r1 ∧ K v a1 r1) := by
  intro d
  induction d with
  | zero =>
    intro K a r kc ks p0 h
    rw [qY_writeOut] at h
    exact h.elim
  | succ d ih =>
    intro K a r kc ks p0 h
    rw [qY_writeOut] at h
    exact cY_writeOut_B ih p0 h
set_option maxRecDepth 100000 in
set_option maxHeartbeats 4000000 in
theorem kY_writeOut {p : Program} {l : Launch} {e : Env} {R : Room} {s : State} {m : MethodId} {args : Array Value} {below : List Frame} {meth : Method} {c : Code} {cells slots : Nat} {Q : State → Prop} {A : Nat → Prop} {D : va_G} {nL pc : Nat} {cc : ByteArray} {cw : Cond} {own : String} {lv : List (Nat × Value)} {st : List Value} {G : G_} {a : L_} {r : S_} {kc : Nat} {ks : Nat} {d : Nat} {K : Int32 → L_ → S_ → Prop} {p0 : Int32} (C : vx_C p s m args c cc nL (cw :: wAll) own D vwCl (tysG G) nwAll A) {i : Nat} (hl : Cond.methodLink own i yY_writeOut ∈ wAll) (hR : (2 * d + 5) + 1 ≤ R.frames ∧ 8 + (7 + 11) + (26 * d + 93) ≤ R.locals) (hst : (st.map fun v => v.category).sum ≤ 8) (hd : decode cc pc = .ok (.invokevirtual i, 3)) (hcs : cells + kc ≤ R.cells ∧ slots + ks ≤ R.slots) (h : qY_writeOut d K a r kc ks p0) (k : ∀ (v : Int32) (a1 : L_) (r1 : S_), K v a1 r1 → vx_V p l e R s m args below meth c A D vwCl nL (cells + kc) (slots + ks) Q (wo G a1 r1) (pc + 3) lv (.int v :: st)) : vx_V p l e R s m args below meth c A D vwCl nL cells slots Q (wo G a r) pc lv (.int p0 :: .ref (ob G 4) :: st) := by
  refine x_callVi C (CC := "ClassInference$Typer") (ci := 4) (q0 := 4) (fs := fl4 G a r) (As := [.int p0]) rfl rfl (rY_writeOut d K a r kc ks p0 h) (cwV (C := "ClassInference$Typer") 1 C.1.2.2.2.2 (goodV hl wm582 wp25 wm6 wm583) rfl rfl rfl (by decide +kernel) hR) rfl hst hd hcs (fun v w hw => ?_)
  obtain ⟨a1, r1, rfl, h⟩ := hw
  exact k v a1 r1 h
end MTH2
