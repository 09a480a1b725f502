theorem wm423 : (Jvm.Cond.methodLink "ClassInference" (107 : Nat) ({ cls := "ClassInference$Typer", name := "run", desc := "(I)I" } : Jvm.MethodName)) ∈ wAll := mw 423 (by decide +kernel) (by decide +kernel)
theorem wm609 : (Jvm.Cond.methodLink "ClassInference" (110 : Nat) ({ cls := "ClassInference$Typer", name := "tell", desc := "(LClassInference$Told;)V" } : Jvm.MethodName)) ∈ wAll := mw 609 (by decide +kernel) (by decide +kernel)
theorem wm636 : (Jvm.Cond.methodLink "ClassInference" (114 : Nat) ({ cls := "ClassInference$Told", name := "nodes", desc := "()I" } : Jvm.MethodName)) ∈ wAll := mw 636 (by decide +kernel) (by decide +kernel)
theorem wm681 : (Jvm.Cond.methodLink "ClassInference" (134 : Nat) ({ cls := "ClassInference$ClassTable", name := "holdsAll", desc := "(IILClassInference$TypeTable;)Z" } : Jvm.MethodName)) ∈ wAll := mw 681 (by decide +kernel) (by decide +kernel)
section MTH2
variable {p : Program} {l : Launch} {e : Env} {s : State} {m : MethodId} {args : Array Value} {below : List Frame} {meth : Method} {c : Code} {Q : State → Prop} {A : Nat → Prop} {D : va_G} {G : G_} {ws0 : va_W} {mc ms : Nat} {a0 : L_}
def qI_infer (K : Int32 → L_ → S_ → Prop) (a0 : L_) (r : S_) (kc0 : Nat) (ks0 : Nat) (p0 : Int32) : Prop :=
  qE_has a0 r (fun z1 => zb z1 → ((¬ z1 = 0) → qE_nodesOf a0 r (fun z3 => ((z3 ≤ 24) → ∃ k8 s10 k9 s11 : Nat, k8 + k9 = kc0 ∧ s10 + s11 = ks0 ∧ qY_run (fun z5 a7 r6 => fx a0 a7 → ((z5 = 0) → ∃ k15 s17 k16 s18 : Nat, k15 + k16 = k9 ∧ s17 + s18 = s11 ∧ qY_tell (fun a14 r13 => fx a7 a14 → qD_nodes a14 r13 (fun z19 => K z19 a14 r13)) a7 r6 k15 s17) ∧ ((¬ z5 = 0) → K z5 a7 r6)) a0 r k8 s10 p0) ∧ ((¬ z3 ≤ 24) → K (-3) a0 r)) p0) ∧ ((z1 = 0) → K (-1) a0 r)) p0
set_option maxRecDepth 100000 in
set_option maxHeartbeats 4000000 in
theorem cI_infer {a0 : L_} {r : S_} {kc0 : Nat} {ks0 : Nat} {K : Int32 → L_ → S_ → Prop} (p0 : Int32) (h : qI_infer K a0 r kc0 ks0 p0) : vx_Mi l yI_infer (Cond.code yI_infer prog_1_method_11_code 3 (some .int) :: wAll) { frames := 99, cells := kc0, slots := ks0, locals := 3222 } D vwCl (tysG G) nwAll (wo G a0 r) [.ref (ob G 0), .int p0] kc0 ks0 (fun v w => ∃ a1 r1, w = wo G a1 r1 ∧ fx a0 a1 ∧ K v a1 r1) := by
  unfold qI_infer at h
  refine x_meti (cc := prog_1_method_11_code) (maxL := 3) (ret := (some .int)) (lv0 := [(0, .ref (ob G 0)), (1, .int p0)]) (by decide) rfl (Nat.le_of_ble_eq_true rfl) rfl ?_
  intro p e s m args below meth c A C hA hlocks hr
  have hu : 0 + kc0 ≤ kc0 := by omega
  have hv : 0 + ks0 ≤ ks0 := by omega
  have hfa : fx a0 a0 := fx_refl _
  refine x_aload_n C dI_infer_0 rfl 0 rfl ?_
  refine gf_0_2 C (List.mem_cons_of_mem _ wm280) dI_infer_1 ?_
  refine x_iload_n C dI_infer_4 rfl 1 rfl ?_
  refine kE_has C wm400 ⟨Nat.le_of_ble_eq_true rfl, Nat.le_of_ble_eq_true rfl⟩ (Nat.le_of_ble_eq_true rfl) dI_infer_5 ⟨Nat.le_trans (Nat.le_add_right _ _) hu, Nat.le_trans (Nat.le_add_right _ _) hv⟩ h (fun z1 hzz1 h => ?_)
  have h := h hzz1
  refine x_if_ne (tgt := 13) C dI_infer_8 (by decide) (fun g2 => ?_) (fun g2 => ?_)
  · have h := h.1 g2
    refine x_aload_n C dI_infer_13 rfl 0 rfl ?_
    refine gf_0_2 C (List.mem_cons_of_mem _ wm280) dI_infer_14 ?_
    refine x_iload_n C dI_infer_17 rfl 1 rfl ?_
    refine kE_nodesOf C wm419 ⟨Nat.le_of_ble_eq_true rfl, Nat.le_of_ble_eq_true rfl⟩ (Nat.le_of_ble_eq_true rfl) dI_infer_18 ⟨Nat.le_trans (Nat.le_add_right _ _) hu, Nat.le_trans (Nat.le_add_right _ _) hv⟩ h (fun z3 h => ?_)
    refine x_bipush (v := 24) C dI_infer_21 (by decide) ?_
    refine x_icmp_le (tgt := 29) C dI_infer_23 (by decide) (fun g4 => ?_) (fun g4 => ?_)
    · have h := h.1 g4
      refine x_aload_n C dI_infer_29 rfl 0 rfl ?_
      refine gf_0_3 C (List.mem_cons_of_mem _ wm281) dI_infer_30 ?_
      refine x_iload_n C dI_infer_33 rfl 1 rfl ?_
      obtain ⟨k8, s10, k9, s11, e22, e23, h⟩ := h
      have hu9 : 0 + k8 ≤ kc0 := by omega
      have hv9 : 0 + s10 ≤ ks0 := by omega
      refine kY_run C wm423 ⟨Nat.le_of_ble_eq_true rfl, Nat.le_of_ble_eq_true rfl⟩ (Nat.le_of_ble_eq_true rfl) dI_infer_34 ⟨hu9, hv9⟩ h (fun z5 a7 r6 hf9 h => ?_)
      have hu : (0 + k8) + k9 ≤ kc0 := by omega
      have hv : (0 + s10) + s11 ≤ ks0 := by omega
      have h := h hf9
      have hfa : fx a0 a7 := fx_trans hfa hf9
      refine x_istore_n C [(2, .int z5), (0, .ref (ob G 0)), (1, .int p0)] dI_infer_37 rfl (by decide) rfl ?_
      refine x_iload_n C dI_infer_38 rfl 0 rfl ?_
      refine x_if_eq (tgt := 44) C dI_infer_39 (by decide) (fun g12 => ?_) (fun g12 => ?_)
      · have h := h.1 g12
        refine x_aload_n C dI_infer_44 rfl 1 rfl ?_
        refine gf_0_3 C (List.mem_cons_of_mem _ wm281) dI_infer_45 ?_
        refine x_aload_n C dI_infer_48 rfl 1 rfl ?_
        refine gf_0_4 C (List.mem_cons_of_mem _ wm282) dI_infer_49 ?_
        obtain ⟨k15, s17, k16, s18, e20, e21, h⟩ := h
        have hu9 : (0 + k8) + k15 ≤ kc0 := by omega
        have hv9 : (0 + s10) + s17 ≤ ks0 := by omega
        refine kY_tell C wm609 ⟨Nat.le_of_ble_eq_true rfl, Nat.le_of_ble_eq_true rfl⟩ (Nat.le_of_ble_eq_true rfl) dI_infer_52 ⟨hu9, hv9⟩ h (fun a14 r13 hf9 h => ?_)
        have hu : ((0 + k8) + k15) + k16 ≤ kc0 := by omega
        have hv : ((0 + s10) + s17) + s18 ≤ ks0 := by omega
        have h := h hf9
        have hfa : fx a0 a14 := fx_trans hfa hf9
        refine x_aload_n C dI_infer_55 rfl 1 rfl ?_
        refine gf_0_4 C (List.mem_cons_of_mem _ wm282) dI_infer_56 ?_
        refine kD_nodes C wm636 ⟨Nat.le_of_ble_eq_true rfl, Nat.le_of_ble_eq_true rfl⟩ (Nat.le_of_ble_eq_true rfl) dI_infer_59 ⟨Nat.le_trans (Nat.le_add_right _ _) hu, Nat.le_trans (Nat.le_add_right _ _) hv⟩ h (fun z19 h => ?_)
        refine x_widen (k1 := kc0) (n1 := ks0) (by omega) (by omega) ?_
        exact x_iret C hA hlocks hr ⟨a14, r13, rfl, hfa, h⟩ dI_infer_62
      · have h := h.2 g12
        refine x_iload_n C dI_infer_42 rfl 0 rfl ?_
        refine x_widen (k1 := kc0) (n1 := ks0) (by omega) (by omega) ?_
        exact x_iret C hA hlocks hr ⟨a7, r6, rfl, hfa, h⟩ dI_infer_43
    · have h := h.2 g4
      refine x_bipush (v := (-3)) C dI_infer_26 (by decide) ?_
      refine x_widen (k1 := kc0) (n1 := ks0) (by omega) (by omega) ?_
      exact x_iret C hA hlocks hr ⟨a0, r, rfl, hfa, h⟩ dI_infer_28
  · have h := h.2 g2
    refine x_iconst (v := (-1)) C dI_infer_11 (by decide) ?_
    refine x_widen (k1 := kc0) (n1 := ks0) (by omega) (by omega) ?_
    exact x_iret C hA hlocks hr ⟨a0, r, rfl, hfa, h⟩ dI_infer_12
set_option maxRecDepth 100000 in
set_option maxHeartbeats 4000000 in
theorem kI_infer {p : Program} {l : Launch} {e : Env} {R : Room} {s : State} {m : MethodId} {args : Array Value} {below : List Frame} {meth : Method} {c : Code} {cells slots : Nat} {Q : State → Prop} {A : Nat → Prop} {D : va_G} {nL pc : Nat} {cc : ByteArray} {cw : Cond} {own : String} {lv : List (Nat × Value)} {st : List Value} {G : G_} {a : L_} {r : S_} {kc : Nat} {ks : Nat} {K : Int32 → L_ → S_ → Prop} {p0 : Int32} (C : vx_C p s m args c cc nL (cw :: wAll) own D vwCl (tysG G) nwAll A) {i : Nat} (hl : Cond.methodLink own i yI_infer ∈ wAll) (hR : 99 + 1 ≤ R.frames ∧ 8 + (3 + 11) + 3222 ≤ R.locals) (hst : (st.map fun v => v.category).sum ≤ 8) (hd : decode cc pc = .ok (.invokevirtual i, 3)) (hcs : cells + kc ≤ R.cells ∧ slots + ks ≤ R.slots) (h : qI_infer K a r kc ks p0) (k : ∀ (v : Int32) (a1 : L_) (r1 : S_), fx a a1 → K v a1 r1 → vx_V p l e R s m args below meth c A D vwCl nL (cells + kc) (slots + ks) Q (wo G a1 r1) (pc + 3) lv (.int v :: st)) : vx_V p l e R s m args below meth c A D vwCl nL cells slots Q (wo G a r) pc lv (.int p0 :: .ref (ob G 0) :: st) := by
  refine x_callVi C (CC := "ClassInference") (ci := 0) (q0 := 0) (fs := fl0 G a r) (As := [.int p0]) rfl rfl (cI_infer p0 h) (cwV (C := "ClassInference") 1 C.1.2.2.2.2 (goodV hl wm416 wm417 wm1 wm418) rfl rfl rfl (by decide +kernel) hR) rfl hst hd hcs (fun v w hw => ?_)
  obtain ⟨a1, r1, rfl, hf9, h⟩ := hw
  exact k v a1 r1 hf9 h
def qI_is (a : L_) (r : S_) (K : Int32 → Prop) (p0 : Int32) (p1 : Int32) : Prop :=
  qK_hasClass a r (fun z1 => zb z1 → ((z1 = 0) → K (-1)) ∧ ((¬ z1 = 0) → qT_hasType a r (fun z3 => zb z3 → ((z3 = 0) → K (-1)) ∧ ((¬ z3 = 0) → qT_holdsVariables a r (fun z5 => zb z5 → ((z5 = 0) → qK_holdsAll a r (fun z7 => zb z7 → ((z7 = 0) → K 0) ∧ ((¬ z7 = 0) → K 1)) (1 <<< (p0 &&& 31)) p1) ∧ ((¬ z5 = 0) → K (-1))) p1)) p1)) p0
set_option maxRecDepth 100000 in
set_option maxHeartbeats 4000000 in
theorem cI_is {a : L_} {r : S_} {K : Int32 → Prop} (p0 : Int32) (p1 : Int32) (h : qI_is a r K p0 p1) : vx_Mi l yI_is (Cond.code yI_is prog_1_method_16_code 3 (some .int) :: wAll) { frames := 43, cells := 0, slots := 0, locals := 649 } D vwCl (tysG G) nwAll (wo G a r) [.ref (ob G 0), .int p0, .int p1] 0 0 (fun v w => w = wo G a r ∧ K v) := by
  unfold qI_is at h
  refine x_meti (cc := prog_1_method_16_code) (maxL := 3) (ret := (some .int)) (lv0 := [(0, .ref (ob G 0)), (1, .int p0), (2, .int p1)]) (by decide) rfl (Nat.le_of_ble_eq_true rfl) rfl ?_
  intro p e s m args below meth c A C hA hlocks hr
  refine x_aload_n C dI_is_0 rfl 0 rfl ?_
  refine gf_0_1 C (List.mem_cons_of_mem _ wm279) dI_is_1 ?_
  refine x_iload_n C dI_is_4 rfl 1 rfl ?_
  refine kK_hasClass C wm342 ⟨Nat.le_of_ble_eq_true rfl, Nat.le_of_ble_eq_true rfl⟩ (Nat.le_of_ble_eq_true rfl) dI_is_5 ⟨Nat.zero_le _, Nat.zero_le _⟩ h (fun z1 hzz1 h => ?_)
  have h := h hzz1
  refine x_if_eq (tgt := 33) C dI_is_8 (by decide) (fun g2 => ?_) (fun g2 => ?_)
  · have h := h.1 g2
    refine x_iconst (v := (-1)) C dI_is_33 (by decide) ?_
    exact x_iret C hA hlocks hr ⟨rfl, h⟩ dI_is_34
  · have h := h.2 g2
    refine x_aload_n C dI_is_11 rfl 0 rfl ?_
    refine gf_0_0 C (List.mem_cons_of_mem _ wm278) dI_is_12 ?_
    refine x_iload_n C dI_is_15 rfl 2 rfl ?_
    refine kT_hasType C wm330 ⟨Nat.le_of_ble_eq_true rfl, Nat.le_of_ble_eq_true rfl⟩ (Nat.le_of_ble_eq_true rfl) dI_is_16 ⟨Nat.zero_le _, Nat.zero_le _⟩ h (fun z3 hzz3 h => ?_)
    have h := h hzz3
    refine x_if_eq (tgt := 33) C dI_is_19 (by decide) (fun g4 => ?_) (fun g4 => ?_)
    · have h := h.1 g4
      refine x_iconst (v := (-1)) C dI_is_33 (by decide) ?_
      exact x_iret C hA hlocks hr ⟨rfl, h⟩ dI_is_34
    · have h := h.2 g4
      refine x_aload_n C dI_is_22 rfl 0 rfl ?_
      refine gf_0_0 C (List.mem_cons_of_mem _ wm278) dI_is_23 ?_
      refine x_iload_n C dI_is_26 rfl 2 rfl ?_
      refine kT_holdsVariables C wm677 ⟨Nat.le_of_ble_eq_true rfl, Nat.le_of_ble_eq_true rfl⟩ (Nat.le_of_ble_eq_true rfl) dI_is_27 ⟨Nat.zero_le _, Nat.zero_le _⟩ h (fun z5 hzz5 h => ?_)
      have h := h hzz5
      refine x_if_eq (tgt := 35) C dI_is_30 (by decide) (fun g6 => ?_) (fun g6 => ?_)
      · have h := h.1 g6
        refine x_aload_n C dI_is_35 rfl 0 rfl ?_
        refine gf_0_1 C (List.mem_cons_of_mem _ wm279) dI_is_36 ?_
        refine x_iconst (v := 1) C dI_is_39 (by decide) ?_
        refine x_iload_n C dI_is_40 rfl 1 rfl ?_
        refine x_ishl C dI_is_41 ?_
        refine x_iload_n C dI_is_42 rfl 2 rfl ?_
        refine x_aload_n C dI_is_43 rfl 0 rfl ?_
        refine gf_0_0 C (List.mem_cons_of_mem _ wm278) dI_is_44 ?_
        refine kK_holdsAll C wm681 ⟨Nat.le_of_ble_eq_true rfl, Nat.le_of_ble_eq_true rfl⟩ (Nat.le_of_ble_eq_true rfl) dI_is_47 ⟨Nat.zero_le _, Nat.zero_le _⟩ h (fun z7 hzz7 h => ?_)
        have h := h hzz7
        refine x_if_eq (tgt := 57) C dI_is_50 (by decide) (fun g8 => ?_) (fun g8 => ?_)
        · have h := h.1 g8
          refine x_iconst (v := 0) C dI_is_57 (by decide) ?_
          exact x_iret C hA hlocks hr ⟨rfl, h⟩ dI_is_58
        · have h := h.2 g8
          refine x_iconst (v := 1) C dI_is_53 (by decide) ?_
          refine x_goto (tgt := 58) C dI_is_54 (by decide) ?_
          exact x_iret C hA hlocks hr ⟨rfl, h⟩ dI_is_58
      · have h := h.2 g6
        refine x_iconst (v := (-1)) C dI_is_33 (by decide) ?_
        exact x_iret C hA hlocks hr ⟨rfl, h⟩ dI_is_34
set_option maxRecDepth 100000 in
set_option maxHeartbeats 4000000 in
theorem kI_is {p : Program} {l : Launch} {e : Env} {R : Room} {s : State} {m : MethodId} {args : Array Value} {below : List Frame} {meth : Method} {c : Code} {cells slots : Nat} {Q : State → Prop} {A : Nat → Prop} {D : va_G} {nL pc : Nat} {cc : ByteArray} {cw : Cond} {own : String} {lv : List (Nat × Value)} {st : List Value} {G : G_} {a : L_} {r : S_} {K : Int32 → Prop} {p0 : Int32} {p1 : Int32} (C : vx_C p s m args c cc nL (cw :: wAll) own D vwCl (tysG G) nwAll A) {i : Nat} (hl : Cond.methodLink own i yI_is ∈ wAll) (hR : 43 + 1 ≤ R.frames ∧ 8 + (3 + 11) + 649 ≤ R.locals) (hst : (st.map fun v => v.category).sum ≤ 8) (hd : decode cc pc = .ok (.invokevirtual i, 3)) (hcs : cells ≤ R.cells ∧ slots ≤ R.slots) (h : qI_is a r K p0 p1) (k : ∀ (v : Int32), K v → vx_V p l e R s m args below meth c A D vwCl nL cells slots Q (wo G a r) (pc + 3) lv (.int v :: st)) : vx_V p l e R s m args below meth c A D vwCl nL cells slots Q (wo G a r) pc lv (.int p1 :: .int p0 :: .ref (ob G 0) :: st) := by
  refine x_callVi C (CC := "ClassInference") (ci := 0) (q0 := 0) (fs := fl0 G a r) (As := [.int p0, .int p1]) rfl rfl (cI_is p0 p1 h) (cwV (C := "ClassInference") 2 C.1.2.2.2.2 (goodV hl wm674 wm675 wm1 wm676) rfl rfl rfl (by decide +kernel) hR) rfl hst hd hcs (fun v w hw => ?_)
  obtain ⟨rfl, h⟩ := hw
  exact k v h
end MTH2
section LAWF
variable {p : Program} {l : Launch} {e : Env} {s : State} {m : MethodId} {below : List Frame} {meth : Method} {c : Code} {Q : State → Prop} {A : Nat → Prop} {D : va_G} {G : G_} {b L : Nat} {xs : Nat → Int32} {cw : Cond} {a0 : L_}
def q_lawF_J577 (L : Nat) (xs : Nat → Int32) (KB18 : L_ → S_ → Nat → Nat → Int32 → Prop) (KX583 : L_ → S_ → Nat → Nat → Prop) (a : L_) (r : S_) (kc : Nat) (ks : Nat) (v3 : Int32) : Prop :=
  KB18 a r kc ks (v3 + 5)
set_option maxRecDepth 100000 in
set_option maxHeartbeats 4000000 in
theorem t_lawF_J577 (C : vx_C p s m #[Value.ref b] c code 4 (cw :: wAll) "ClassInferenceLaw" D vwCl (tysG G) nwAll A) (hX : va_X b L xs s s.heap) (hbl : b < s.heap.size) (hbA : ¬ A b) {KB18 : L_ → S_ → Nat → Nat → Int32 → Prop} {KX583 : L_ → S_ → Nat → Nat → Prop} (kB18 : ∀ (a : L_) (r : S_) (kc : Nat) (ks : Nat) (v3 : Int32) (u v : Nat) (hu : u + kc ≤ 393230) (hv : v + ks ≤ 7922560) (hfa : fx a0 a), KB18 a r kc ks v3 → vx_V p l e room_1 s m #[Value.ref b] below meth c A D vwCl 4 u v Q (wo G a r) 18 [(0, .ref b), (1, .ref (ob G 0)), (2, .ref (ob G 7)), (3, .int v3)] []) (kX583 : ∀ (a : L_) (r : S_) (kc : Nat) (ks : Nat) (u v : Nat) (hu : u + kc ≤ 393230) (hv : v + ks ≤ 7922560) (hfa : fx a0 a), KX583 a r kc ks → vx_V p l e room_1 s m #[Value.ref b] below meth c A D vwCl 4 u v Q (wo G a r) 583 [] []) (a : L_) (r : S_) (kc : Nat) (ks : Nat) (v3 : Int32) (u v : Nat) (hu : u + kc ≤ 393230) (hv : v + ks ≤ 7922560) (hfa : fx a0 a) (h : q_lawF_J577 L xs KB18 KX583 a r kc ks v3) : vx_V p l e room_1 s m #[Value.ref b] below meth c A D vwCl 4 u v Q (wo G a r) 577 [(0, .ref b), (1, .ref (ob G 0)), (2, .ref (ob G 7)), (3, .int v3)] [] := by
  unfold q_lawF_J577 at h
  refine x_iinc (j := 3) (v := v3 + 5) C [(3, .int (v3 + 5)), (0, .ref b), (1, .ref (ob G 0)), (2, .ref (ob G 7))] d_law_577 rfl rfl (by decide) rfl ?_
  refine x_goto (tgt := 18) C d_law_580 (by decide) ?_
  refine x_sub [1, 2, 3, 0] rfl ?_
  exact kB18 a r kc ks (v3 + 5) _ _ hu hv hfa h
def q_lawF_L18 (L : Nat) (xs : Nat → Int32) (KX583 : L_ → S_ → Nat → Nat → Prop) : Nat → L_ → S_ → Nat → Nat → Int32 → Prop
  | 0, _, _, _, _, _ => False
  | n + 1, a, r, kc, ks, v3 => ((((Int32.ofNat L) - 5) < v3) → KX583 a r kc ks) ∧ ((¬ ((Int32.ofNat L) - 5) < v3) → vp_in v3 L ∧ (((xs v3.toNatClampNeg) &&& 31) = 0 → vp_in (v3 + 1) L ∧ qI_constructor a (fun z4 r5 => vp_in (v3 + 1) L ∧ qM_constructor a (fun z7 r8 => q_lawF_J577 L xs (q_lawF_L18 L xs KX583 n) KX583 a r8 kc ks v3) r5 (xs (v3 + 1).toNatClampNeg)) r (xs (v3 + 1).toNatClampNeg)) ∧ (((xs v3.toNatClampNeg) &&& 31) = 1 → vp_in (v3 + 1) L ∧ qI_variable a (fun z10 r11 => vp_in (v3 + 1) L ∧ qM_variable a (fun z13 r14 => q_lawF_J577 L xs (q_lawF_L18 L xs KX583 n) KX583 a r14 kc ks v3) r11 (xs (v3 + 1).toNatClampNeg)) r (xs (v3 + 1).toNatClampNeg)) ∧ (((xs v3.toNatClampNeg) &&& 31) = 2 → vp_in (v3 + 1) L ∧ vp_in (v3 + 2) L ∧ vp_in (v3 + 3) L ∧ qI_type a (fun z18 r19 => vp_in (v3 + 1) L ∧ vp_in (v3 + 2) L ∧ vp_in (v3 + 3) L ∧ qM_type a (fun z23 r24 => q_lawF_J577 L xs (q_lawF_L18 L xs KX583 n) KX583 a r24 kc ks v3) r19 (xs (v3 + 1).toNatClampNeg) (xs (v3 + 2).toNatClampNeg) (xs (v3 + 3).toNatClampNeg)) r (xs (v3 + 1).toNatClampNeg) (xs (v3 + 2).toNatClampNeg) (xs (v3 + 3).toNatClampNeg)) ∧ (((xs v3.toNatClampNeg) &&& 31) = 3 → vp_in (v3 + 1) L ∧ qI_class0 a (fun z26 r27 => vp_in (v3 + 1) L ∧ qM_class0 a (fun z29 r30 => q_lawF_J577 L xs (q_lawF_L18 L xs KX583 n) KX583 a r30 kc ks v3) r27 (xs (v3 + 1).toNatClampNeg)) r (xs (v3 + 1).toNatClampNeg)) ∧ (((xs v3.toNatClampNeg) &&& 31) = 4 → vp_in (v3 + 1) L ∧ vp_in (v3 + 2) L ∧ qI_method a (fun z33 r34 => vp_in (v3 + 1) L ∧ vp_in (v3 + 2) L ∧ qM_method a (fun z37 r38 => q_lawF_J577 L xs (q_lawF_L18 L xs KX583 n) KX583 a r38 kc ks v3) r34 (xs (v3 + 1).toNatClampNeg) (xs (v3 + 2).toNatClampNeg)) r (xs (v3 + 1).toNatClampNeg) (xs (v3 + 2).toNatClampNeg)) ∧ (((xs v3.toNatClampNeg) &&& 31) = 5 → vp_in (v3 + 1) L ∧ vp_in (v3 + 2) L ∧ vp_in (v3 + 3) L ∧ vp_in (v3 + 4) L ∧ qI_instance a (fun z43 r44 => vp_in (v3 + 1) L ∧ vp_in (v3 + 2) L ∧ vp_in (v3 + 3) L ∧ vp_in (v3 + 4) L ∧ qM_instance a (fun z49 r50 => q_lawF_J577 L xs (q_lawF_L18 L xs KX583 n) KX583 a r50 kc ks v3) r44 (xs (v3 + 1).toNatClampNeg) (xs (v3 + 2).toNatClampNeg) (xs (v3 + 3).toNatClampNeg) (xs (v3 + 4).toNatClampNeg)) r (xs (v3 + 1).toNatClampNeg) (xs (v3 + 2).toNatClampNeg) (xs (v3 + 3).toNatClampNeg) (xs (v3 + 4).toNatClampNeg)) ∧ (((xs v3.toNatClampNeg) &&& 31) = 6 → vp_in (v3 + 1) L ∧ vp_in (v3 + 2) L ∧ vp_in (v3 + 3) L ∧ vp_in (v3 + 4) L ∧ qI_expression a (fun z55 r56 => vp_in (v3 + 1) L ∧ vp_in (v3 + 2) L ∧ vp_in (v3 + 3) L ∧ vp_in (v3 + 4) L ∧ qM_expression a (fun z61 r62 => q_lawF_J577 L xs (q_lawF_L18 L xs KX583 n) KX583 a r62 kc ks v3) r56 (xs (v3 + 1).toNatClampNeg) (xs (v3 + 2).toNatClampNeg) (xs (v3 + 3).toNatClampNeg) (xs (v3 + 4).toNatClampNeg)) r (xs (v3 + 1).toNatClampNeg) (xs (v3 + 2).toNatClampNeg) (xs (v3 + 3).toNatClampNeg) (xs (v3 + 4).toNatClampNeg)) ∧ (((xs v3.toNatClampNeg) &&& 31) = 7 → vp_in (v3 + 1) L ∧ ∃ k67 s69 k68 s70 : Nat, k67 + k68 = kc ∧ s69 + s70 = ks ∧ qI_infer (fun z64 a66 r65 => fx a a66 → vp_in (v3 + 1) L ∧ qM_infer a66 (fun z72 r73 => q_lawF_J577 L xs (q_lawF_L18 L xs KX583 n) KX583 a66 r73 k68 s70 v3) r65 (xs (v3 + 1).toNatClampNeg)) a r k67 s69 (xs (v3 + 1).toNatClampNeg)) ∧ (((xs v3.toNatClampNeg) &&& 31) = 8 → vp_in (v3 + 1) L ∧ qI_shape a r (fun z77 => vp_in (v3 + 1) L ∧ qM_shape a (fun z79 r80 => q_lawF_J577 L xs (q_lawF_L18 L xs KX583 n) KX583 a r80 kc ks v3) r (xs (v3 + 1).toNatClampNeg)) (xs (v3 + 1).toNatClampNeg)) ∧ (((xs v3.toNatClampNeg) &&& 31) = 9 → qI_wants a r (fun z81 => qM_wants a (fun z82 r83 => q_lawF_J577 L xs (q_lawF_L18 L xs KX583 n) KX583 a r83 kc ks v3) r)) ∧ (((xs v3.toNatClampNeg) &&& 31) = 10 → vp_in (v3 + 1) L ∧ vp_in (v3 + 2) L ∧ qI_want a r (fun z86 => vp_in (v3 + 1) L ∧ vp_in (v3 + 2) L ∧ qM_want a (fun z89 r90 => ((z86 = z89) → q_lawF_J577 L xs (q_lawF_L18 L xs KX583 n) KX583 a r90 kc ks v3) ∧ ((¬ z86 = z89) → 0 = (1 : Int32))) r (xs (v3 + 1).toNatClampNeg) (xs (v3 + 2).toNatClampNeg)) (xs (v3 + 1).toNatClampNeg) (xs (v3 + 2).toNatClampNeg)) ∧ (((xs v3.toNatClampNeg) &&& 31) = 11 → qI_passes a r (fun z92 => qM_passes a (fun z93 r94 => q_lawF_J577 L xs (q_lawF_L18 L xs KX583 n) KX583 a r94 kc ks v3) r)) ∧ (((xs v3.toNatClampNeg) &&& 31) = 12 → vp_in (v3 + 1) L ∧ vp_in (v3 + 2) L ∧ qI_is a r (fun z97 => vp_in (v3 + 1) L ∧ vp_in (v3 + 2) L ∧ qM_is a (fun z100 r101 => q_lawF_J577 L xs (q_lawF_L18 L xs KX583 n) KX583 a r101 kc ks v3) r (xs (v3 + 1).toNatClampNeg) (xs (v3 + 2).toNatClampNeg)) (xs (v3 + 1).toNatClampNeg) (xs (v3 + 2).toNatClampNeg)) ∧ (((xs v3.toNatClampNeg) &&& 31) = 13 → vp_in (v3 + 1) L ∧ vp_in (v3 + 2) L ∧ qI_under a r (fun z104 => vp_in (v3 + 1) L ∧ vp_in (v3 + 2) L ∧ qM_under a (fun z107 r108 => q_lawF_J577 L xs (q_lawF_L18 L xs KX583 n) KX583 a r108 kc ks v3) r (xs (v3 + 1).toNatClampNeg) (xs (v3 + 2).toNatClampNeg)) (xs (v3 + 1).toNatClampNeg) (xs (v3 + 2).toNatClampNeg)) ∧ (((xs v3.toNatClampNeg) &&& 31) = 14 → qI_types a r (fun z109 => qM_types a (fun z110 r111 => q_lawF_J577 L xs (q_lawF_L18 L xs KX583 n) KX583 a r111 kc ks v3) r)) ∧ (((xs v3.toNatClampNeg) &&& 31) = 15 → qI_classes a r (fun z112 => qM_classes a (fun z113 r114 => q_lawF_J577 L xs (q_lawF_L18 L xs KX583 n) KX583 a r114 kc ks v3) r)) ∧ (((xs v3.toNatClampNeg) &&& 31) = 16 → qI_expressions a r (fun z115 => qM_expressions a (fun z116 r117 => q_lawF_J577 L xs (q_lawF_L18 L xs KX583 n) KX583 a r117 kc ks v3) r)) ∧ ((((xs v3.toNatClampNeg) &&& 31).toInt < 0 ∨ 16 < ((xs v3.toNatClampNeg) &&& 31).toInt) → q_lawF_J577 L xs (q_lawF_L18 L xs KX583 n) KX583 a r kc ks v3))
set_option maxRecDepth 100000 in
set_option maxHeartbeats 4000000 in
theorem t_lawF_L18 (C : vx_C p s m #[Value.ref b] c code 4 (cw :: wAll) "ClassInferenceLaw" D vwCl (tysG G) nwAll A) (hX : va_X b L xs s s.heap) (hbl : b < s.heap.size) (hbA : ¬ A b) {KX583 : L_ → S_ → Nat → Nat → Prop} (kX583 : ∀ (a : L_) (r : S_) (kc : Nat) (ks : Nat) (u v : Nat) (hu : u + kc ≤ 393230) (hv : v + ks ≤ 7922560) (hfa : fx a0 a), KX583 a r kc ks → vx_V p l e room_1 s m #[Value.ref b] below meth c A D vwCl 4 u v Q (wo G a r) 583 [] []) : ∀ (n : Nat) (a : L_) (r : S_) (kc : Nat) (ks : Nat) (v3 : Int32) (u v : Nat) (hu : u + kc ≤ 393230) (hv : v + ks ≤ 7922560) (hfa : fx a0 a), q_lawF_L18 L xs KX583 n a r kc ks v3 → vx_V p l e room_1 s m #[Value.ref b] below meth c A D vwCl 4 u v Q (wo G a r) 18 [(0, .ref b), (1, .ref (ob G 0)), (2, .ref (ob G 7)), (3, .int v3)] [] := by
  intro n
  induction n with
  | zero =>
    intro a r kc ks v3 u v hu hv hfa h
    exact (by rw [q_lawF_L18] at h; exact h : False).elim
  | succ n kB18 =>
    intro a r kc ks v3 u v hu hv hfa h
    rw [q_lawF_L18] at h
    refine x_iload_n C d_law_18 rfl 3 rfl ?_
    refine x_aload_n C d_law_19 rfl 0 rfl ?_
    refine y_slen C hX hbl hbA d_law_20 ?_
    refine x_iconst (v := 5) C d_law_21 (by decide) ?_
    refine x_isub C d_law_22 ?_
    refine x_icmp_gt (tgt := 583) C d_law_23 (by decide) (fun g1 => ?_) (fun g1 => ?_)
    · have h := h.1 g1
      refine x_sub [] rfl ?_
      exact kX583 a r kc ks _ _ hu hv hfa h
    · have h := h.2 g1
      refine x_aload_n C d_law_26 rfl 0 rfl ?_
      refine x_iload_n C d_law_27 rfl 3 rfl ?_
      obtain ⟨g2, h⟩ := h
      refine y_sld C hX hbl hbA g2 d_law_28 ?_
      refine x_bipush (v := 31) C d_law_29 (by decide) ?_
      refine x_iand C d_law_31 ?_
      by_cases hn0 : ((xs v3.toNatClampNeg) &&& 31) = 0
      · have h := h.1 hn0
        refine x_tableIn (off := 84) (tgt := 116) C d_law_32 (by rw [hn0]; decide) (by rw [hn0]; decide) (by rw [hn0]; decide) (by decide) ?_
        refine x_aload_n C d_law_116 rfl 1 rfl ?_
        refine x_aload_n C d_law_117 rfl 0 rfl ?_
        refine x_iload_n C d_law_118 rfl 3 rfl ?_
        refine x_iconst (v := 1) C d_law_119 (by decide) ?_
        refine x_iadd C d_law_120 ?_
        obtain ⟨g3, h⟩ := h
        refine y_sld C hX hbl hbA g3 d_law_121 ?_
        refine kI_constructor C wm294 ⟨Nat.le_of_ble_eq_true rfl, Nat.le_of_ble_eq_true rfl⟩ (Nat.le_of_ble_eq_true rfl) d_law_122 ⟨Nat.le_trans (Nat.le_add_right _ _) hu, Nat.le_trans (Nat.le_add_right _ _) hv⟩ h (fun z4 r5 h => ?_)
        refine x_pop C d_law_125 rfl ?_
        refine x_aload_n C d_law_126 rfl 2 rfl ?_
        refine x_aload_n C d_law_127 rfl 0 rfl ?_
        refine x_iload_n C d_law_128 rfl 3 rfl ?_
        refine x_iconst (v := 1) C d_law_129 (by decide) ?_
        refine x_iadd C d_law_130 ?_
        obtain ⟨g6, h⟩ := h
        refine y_sld C hX hbl hbA g6 d_law_131 ?_
        refine kM_constructor C wm940 ⟨Nat.le_of_ble_eq_true rfl, Nat.le_of_ble_eq_true rfl⟩ (Nat.le_of_ble_eq_true rfl) d_law_132 ⟨Nat.le_trans (Nat.le_add_right _ _) hu, Nat.le_trans (Nat.le_add_right _ _) hv⟩ h (fun z7 r8 h => ?_)
        refine x_pop C d_law_135 rfl ?_
        refine x_goto (tgt := 577) C d_law_136 (by decide) ?_
        refine x_sub [0, 1, 2, 3] rfl ?_
        exact t_lawF_J577 C hX hbl hbA kB18 kX583 a r8 kc ks v3 _ _ hu hv hfa h
      · by_cases hn1 : ((xs v3.toNatClampNeg) &&& 31) = 1
        · have h := h.2.1 hn1
          refine x_tableIn (off := 107) (tgt := 139) C d_law_32 (by rw [hn1]; decide) (by rw [hn1]; decide) (by rw [hn1]; decide) (by decide) ?_
          refine x_aload_n C d_law_139 rfl 1 rfl ?_
          refine x_aload_n C d_law_140 rfl 0 rfl ?_
          refine x_iload_n C d_law_141 rfl 3 rfl ?_
          refine x_iconst (v := 1) C d_law_142 (by decide) ?_
          refine x_iadd C d_law_143 ?_
          obtain ⟨g9, h⟩ := h
          refine y_sld C hX hbl hbA g9 d_law_144 ?_
          refine kI_variable C wm302 ⟨Nat.le_of_ble_eq_true rfl, Nat.le_of_ble_eq_true rfl⟩ (Nat.le_of_ble_eq_true rfl) d_law_145 ⟨Nat.le_trans (Nat.le_add_right _ _) hu, Nat.le_trans (Nat.le_add_right _ _) hv⟩ h (fun z10 r11 h => ?_)
          refine x_pop C d_law_148 rfl ?_
          refine x_aload_n C d_law_149 rfl 2 rfl ?_
          refine x_aload_n C d_law_150 rfl 0 rfl ?_
          refine x_iload_n C d_law_151 rfl 3 rfl ?_
          refine x_iconst (v := 1) C d_law_152 (by decide) ?_
          refine x_iadd C d_law_153 ?_
          obtain ⟨g12, h⟩ := h
          refine y_sld C hX hbl hbA g12 d_law_154 ?_
          refine kM_variable C wm947 ⟨Nat.le_of_ble_eq_true rfl, Nat.le_of_ble_eq_true rfl⟩ (Nat.le_of_ble_eq_true rfl) d_law_155 ⟨Nat.le_trans (Nat.le_add_right _ _) hu, Nat.le_trans (Nat.le_add_right _ _) hv⟩ h (fun z13 r14 h => ?_)
          refine x_pop C d_law_158 rfl ?_
          refine x_goto (tgt := 577) C d_law_159 (by decide) ?_
          refine x_sub [0, 1, 2, 3] rfl ?_
          exact t_lawF_J577 C hX hbl hbA kB18 kX583 a r14 kc ks v3 _ _ hu hv hfa h
        · by_cases hn2 : ((xs v3.toNatClampNeg) &&& 31) = 2
          · have h := h.2.2.1 hn2
            refine x_tableIn (off := 130) (tgt := 162) C d_law_32 (by rw [hn2]; decide) (by rw [hn2]; decide) (by rw [hn2]; decide) (by decide) ?_
            refine x_aload_n C d_law_162 rfl 1 rfl ?_
            refine x_aload_n C d_law_163 rfl 0 rfl ?_
            refine x_iload_n C d_law_164 rfl 3 rfl ?_
            refine x_iconst (v := 1) C d_law_165 (by decide) ?_
            refine x_iadd C d_law_166 ?_
            obtain ⟨g15, h⟩ := h
            refine y_sld C hX hbl hbA g15 d_law_167 ?_
            refine x_aload_n C d_law_168 rfl 0 rfl ?_
            refine x_iload_n C d_law_169 rfl 3 rfl ?_
            refine x_iconst (v := 2) C d_law_170 (by decide) ?_
            refine x_iadd C d_law_171 ?_
            obtain ⟨g16, h⟩ := h
            refine y_sld C hX hbl hbA g16 d_law_172 ?_
            refine x_aload_n C d_law_173 rfl 0 rfl ?_
            refine x_iload_n C d_law_174 rfl 3 rfl ?_
            refine x_iconst (v := 3) C d_law_175 (by decide) ?_
            refine x_iadd C d_law_176 ?_
            obtain ⟨g17, h⟩ := h
            refine y_sld C hX hbl hbA g17 d_law_177 ?_
            refine kI_type C wm318 ⟨Nat.le_of_ble_eq_true rfl, Nat.le_of_ble_eq_true rfl⟩ (Nat.le_of_ble_eq_true rfl) d_law_178 ⟨Nat.le_trans (Nat.le_add_right _ _) hu, Nat.le_trans (Nat.le_add_right _ _) hv⟩ h (fun z18 r19 h => ?_)
            refine x_pop C d_law_181 rfl ?_
            refine x_aload_n C d_law_182 rfl 2 rfl ?_
            refine x_aload_n C d_law_183 rfl 0 rfl ?_
            refine x_iload_n C d_law_184 rfl 3 rfl ?_
            refine x_iconst (v := 1) C d_law_185 (by decide) ?_
            refine x_iadd C d_law_186 ?_
            obtain ⟨g20, h⟩ := h
            refine y_sld C hX hbl hbA g20 d_law_187 ?_
            refine x_aload_n C d_law_188 rfl 0 rfl ?_
            refine x_iload_n C d_law_189 rfl 3 rfl ?_
            refine x_iconst (v := 2) C d_law_190 (by decide) ?_
            refine x_iadd C d_law_191 ?_
            obtain ⟨g21, h⟩ := h
            refine y_sld C hX hbl hbA g21 d_law_192 ?_
            refine x_aload_n C d_law_193 rfl 0 rfl ?_
            refine x_iload_n C d_law_194 rfl 3 rfl ?_
            refine x_iconst (v := 3) C d_law_195 (by decide) ?_
            refine x_iadd C d_law_196 ?_
            obtain ⟨g22, h⟩ := h
            refine y_sld C hX hbl hbA g22 d_law_197 ?_
            refine kM_type C wm955 ⟨Nat.le_of_ble_eq_true rfl, Nat.le_of_ble_eq_true rfl⟩ (Nat.le_of_ble_eq_true rfl) d_law_198 ⟨Nat.le_trans (Nat.le_add_right _ _) hu, Nat.le_trans (Nat.le_add_right _ _) hv⟩ h (fun z23 r24 h => ?_)
            refine x_pop C d_law_201 rfl ?_
            refine x_goto (tgt := 577) C d_law_202 (by decide) ?_
            refine x_sub [0, 1, 2, 3] rfl ?_
            exact t_lawF_J577 C hX hbl hbA kB18 kX583 a r24 kc ks v3 _ _ hu hv hfa h
          · by_cases hn3 : ((xs v3.toNatClampNeg) &&& 31) = 3
            · have h := h.2.2.2.1 hn3
              refine x_tableIn (off := 173) (tgt := 205) C d_law_32 (by rw [hn3]; decide) (by rw [hn3]; decide) (by rw [hn3]; decide) (by decide) ?_
              refine x_aload_n C d_law_205 rfl 1 rfl ?_
              refine x_aload_n C d_law_206 rfl 0 rfl ?_
              refine x_iload_n C d_law_207 rfl 3 rfl ?_
              refine x_iconst (v := 1) C d_law_208 (by decide) ?_
              refine x_iadd C d_law_209 ?_
              obtain ⟨g25, h⟩ := h
              refine y_sld C hX hbl hbA g25 d_law_210 ?_
              refine kI_class0 C wm338 ⟨Nat.le_of_ble_eq_true rfl, Nat.le_of_ble_eq_true rfl⟩ (Nat.le_of_ble_eq_true rfl) d_law_211 ⟨Nat.le_trans (Nat.le_add_right _ _) hu, Nat.le_trans (Nat.le_add_right _ _) hv⟩ h (fun z26 r27 h => ?_)
              refine x_pop C d_law_214 rfl ?_
              refine x_aload_n C d_law_215 rfl 2 rfl ?_
              refine x_aload_n C d_law_216 rfl 0 rfl ?_
              refine x_iload_n C d_law_217 rfl 3 rfl ?_
              refine x_iconst (v := 1) C d_law_218 (by decide) ?_
              refine x_iadd C d_law_219 ?_
              obtain ⟨g28, h⟩ := h
              refine y_sld C hX hbl hbA g28 d_law_220 ?_
              refine kM_class0 C wm959 ⟨Nat.le_of_ble_eq_true rfl, Nat.le_of_ble_eq_true rfl⟩ (Nat.le_of_ble_eq_true rfl) d_law_221 ⟨Nat.le_trans (Nat.le_add_right _ _) hu, Nat.le_trans (Nat.le_add_right _ _) hv⟩ h (fun z29 r30 h => ?_)
              refine x_pop C d_law_224 rfl ?_
              refine x_goto (tgt := 577) C d_law_225 (by decide) ?_
              refine x_sub [0, 1, 2, 3] rfl ?_
              exact t_lawF_J577 C hX hbl hbA kB18 kX583 a r30 kc ks v3 _ _ hu hv hfa h
            · by_cases hn4 : ((xs v3.toNatClampNeg) &&& 31) = 4
              · have h := h.2.2.2.2.1 hn4
                refine x_tableIn (off := 196) (tgt := 228) C d_law_32 (by rw [hn4]; decide) (by rw [hn4]; decide) (by rw [hn4]; decide) (by decide) ?_
                refine x_aload_n C d_law_228 rfl 1 rfl ?_
                refine x_aload_n C d_law_229 rfl 0 rfl ?_
                refine x_iload_n C d_law_230 rfl 3 rfl ?_
                refine x_iconst (v := 1) C d_law_231 (by decide) ?_
                refine x_iadd C d_law_232 ?_
                obtain ⟨g31, h⟩ := h
                refine y_sld C hX hbl hbA g31 d_law_233 ?_
                refine x_aload_n C d_law_234 rfl 0 rfl ?_
                refine x_iload_n C d_law_235 rfl 3 rfl ?_
                refine x_iconst (v := 2) C d_law_236 (by decide) ?_
                refine x_iadd C d_law_237 ?_
                obtain ⟨g32, h⟩ := h
                refine y_sld C hX hbl hbA g32 d_law_238 ?_
                refine kI_method C wm350 ⟨Nat.le_of_ble_eq_true rfl, Nat.le_of_ble_eq_true rfl⟩ (Nat.le_of_ble_eq_true rfl) d_law_239 ⟨Nat.le_trans (Nat.le_add_right _ _) hu, Nat.le_trans (Nat.le_add_right _ _) hv⟩ h (fun z33 r34 h => ?_)
                refine x_pop C d_law_242 rfl ?_
                refine x_aload_n C d_law_243 rfl 2 rfl ?_
                refine x_aload_n C d_law_244 rfl 0 rfl ?_
                refine x_iload_n C d_law_245 rfl 3 rfl ?_
                refine x_iconst (v := 1) C d_law_246 (by decide) ?_
                refine x_iadd C d_law_247 ?_
                obtain ⟨g35, h⟩ := h
                refine y_sld C hX hbl hbA g35 d_law_248 ?_
                refine x_aload_n C d_law_249 rfl 0 rfl ?_
                refine x_iload_n C d_law_250 rfl 3 rfl ?_
                refine x_iconst (v := 2) C d_law_251 (by decide) ?_
                refine x_iadd C d_law_252 ?_
                obtain ⟨g36, h⟩ := h
                refine y_sld C hX hbl hbA g36 d_law_253 ?_
                refine kM_method C wm967 ⟨Nat.le_of_ble_eq_true rfl, Nat.le_of_ble_eq_true rfl⟩ (Nat.le_of_ble_eq_true rfl) d_law_254 ⟨Nat.le_trans (Nat.le_add_right _ _) hu, Nat.le_trans (Nat.le_add_right _ _) hv⟩ h (fun z37 r38 h => ?_)
                refine x_pop C d_law_257 rfl ?_
                refine x_goto (tgt := 577) C d_law_258 (by decide) ?_
                refine x_sub [0, 1, 2, 3] rfl ?_
                exact t_lawF_J577 C hX hbl hbA kB18 kX583 a r38 kc ks v3 _ _ hu hv hfa h
              · by_cases hn5 : ((xs v3.toNatClampNeg) &&& 31) = 5
                · have h := h.2.2.2.2.2.1 hn5
                  refine x_tableIn (off := 229) (tgt := 261) C d_law_32 (by rw [hn5]; decide) (by rw [hn5]; decide) (by rw [hn5]; decide) (by decide) ?_
                  refine x_aload_n C d_law_261 rfl 1 rfl ?_
                  refine x_aload_n C d_law_262 rfl 0 rfl ?_
                  refine x_iload_n C d_law_263 rfl 3 rfl ?_
                  refine x_iconst (v := 1) C d_law_264 (by decide) ?_
                  refine x_iadd C d_law_265 ?_
                  obtain ⟨g39, h⟩ := h
                  refine y_sld C hX hbl hbA g39 d_law_266 ?_
                  refine x_aload_n C d_law_267 rfl 0 rfl ?_
                  refine x_iload_n C d_law_268 rfl 3 rfl ?_
                  refine x_iconst (v := 2) C d_law_269 (by decide) ?_
                  refine x_iadd C d_law_270 ?_
                  obtain ⟨g40, h⟩ := h
                  refine y_sld C hX hbl hbA g40 d_law_271 ?_
                  refine x_aload_n C d_law_272 rfl 0 rfl ?_
                  refine x_iload_n C d_law_273 rfl 3 rfl ?_
                  refine x_iconst (v := 3) C d_law_274 (by decide) ?_
                  refine x_iadd C d_law_275 ?_
                  obtain ⟨g41, h⟩ := h
                  refine y_sld C hX hbl hbA g41 d_law_276 ?_
                  refine x_aload_n C d_law_277 rfl 0 rfl ?_
                  refine x_iload_n C d_law_278 rfl 3 rfl ?_
                  refine x_iconst (v := 4) C d_law_279 (by decide) ?_
                  refine x_iadd C d_law_280 ?_
                  obtain ⟨g42, h⟩ := h
                  refine y_sld C hX hbl hbA g42 d_law_281 ?_
                  refine kI_instance C wm366 ⟨Nat.le_of_ble_eq_true rfl, Nat.le_of_ble_eq_true rfl⟩ (Nat.le_of_ble_eq_true rfl) d_law_282 ⟨Nat.le_trans (Nat.le_add_right _ _) hu, Nat.le_trans (Nat.le_add_right _ _) hv⟩ h (fun z43 r44 h => ?_)
                  refine x_pop C d_law_285 rfl ?_
                  refine x_aload_n C d_law_286 rfl 2 rfl ?_
                  refine x_aload_n C d_law_287 rfl 0 rfl ?_
                  refine x_iload_n C d_law_288 rfl 3 rfl ?_
                  refine x_iconst (v := 1) C d_law_289 (by decide) ?_
                  refine x_iadd C d_law_290 ?_
                  obtain ⟨g45, h⟩ := h
                  refine y_sld C hX hbl hbA g45 d_law_291 ?_
                  refine x_aload_n C d_law_292 rfl 0 rfl ?_
                  refine x_iload_n C d_law_293 rfl 3 rfl ?_
                  refine x_iconst (v := 2) C d_law_294 (by decide) ?_
                  refine x_iadd C d_law_295 ?_
                  obtain ⟨g46, h⟩ := h
                  refine y_sld C hX hbl hbA g46 d_law_296 ?_
                  refine x_aload_n C d_law_297 rfl 0 rfl ?_
                  refine x_iload_n C d_law_298 rfl 3 rfl ?_
                  refine x_iconst (v := 3) C d_law_299 (by decide) ?_
                  refine x_iadd C d_law_300 ?_
                  obtain ⟨g47, h⟩ := h
                  refine y_sld C hX hbl hbA g47 d_law_301 ?_
                  refine x_aload_n C d_law_302 rfl 0 rfl ?_
                  refine x_iload_n C d_law_303 rfl 3 rfl ?_
                  refine x_iconst (v := 4) C d_law_304 (by decide) ?_
                  refine x_iadd C d_law_305 ?_
                  obtain ⟨g48, h⟩ := h
                  refine y_sld C hX hbl hbA g48 d_law_306 ?_
                  refine kM_instance C wm979 ⟨Nat.le_of_ble_eq_true rfl, Nat.le_of_ble_eq_true rfl⟩ (Nat.le_of_ble_eq_true rfl) d_law_307 ⟨Nat.le_trans (Nat.le_add_right _ _) hu, Nat.le_trans (Nat.le_add_right _ _) hv⟩ h (fun z49 r50 h => ?_)
                  refine x_pop C d_law_310 rfl ?_
                  refine x_goto (tgt := 577) C d_law_311 (by decide) ?_
                  refine x_sub [0, 1, 2, 3] rfl ?_
                  exact t_lawF_J577 C hX hbl hbA kB18 kX583 a r50 kc ks v3 _ _ hu hv hfa h
                · by_cases hn6 : ((xs v3.toNatClampNeg) &&& 31) = 6
                  · have h := h.2.2.2.2.2.2.1 hn6
                    refine x_tableIn (off := 282) (tgt := 314) C d_law_32 (by rw [hn6]; decide) (by rw [hn6]; decide) (by rw [hn6]; decide) (by decide) ?_
                    refine x_aload_n C d_law_314 rfl 1 rfl ?_
                    refine x_aload_n C d_law_315 rfl 0 rfl ?_
                    refine x_iload_n C d_law_316 rfl 3 rfl ?_
                    refine x_iconst (v := 1) C d_law_317 (by decide) ?_
                    refine x_iadd C d_law_318 ?_
                    obtain ⟨g51, h⟩ := h
                    refine y_sld C hX hbl hbA g51 d_law_319 ?_
                    refine x_aload_n C d_law_320 rfl 0 rfl ?_
                    refine x_iload_n C d_law_321 rfl 3 rfl ?_
                    refine x_iconst (v := 2) C d_law_322 (by decide) ?_
                    refine x_iadd C d_law_323 ?_
                    obtain ⟨g52, h⟩ := h
                    refine y_sld C hX hbl hbA g52 d_law_324 ?_
                    refine x_aload_n C d_law_325 rfl 0 rfl ?_
                    refine x_iload_n C d_law_326 rfl 3 rfl ?_
                    refine x_iconst (v := 3) C d_law_327 (by decide) ?_
                    refine x_iadd C d_law_328 ?_
                    obtain ⟨g53, h⟩ := h
                    refine y_sld C hX hbl hbA g53 d_law_329 ?_
                    refine x_aload_n C d_law_330 rfl 0 rfl ?_
                    refine x_iload_n C d_law_331 rfl 3 rfl ?_
                    refine x_iconst (v := 4) C d_law_332 (by decide) ?_
                    refine x_iadd C d_law_333 ?_
                    obtain ⟨g54, h⟩ := h
                    refine y_sld C hX hbl hbA g54 d_law_334 ?_
                    refine kI_expression C wm389 ⟨Nat.le_of_ble_eq_true rfl, Nat.le_of_ble_eq_true rfl⟩ (Nat.le_of_ble_eq_true rfl) d_law_335 ⟨Nat.le_trans (Nat.le_add_right _ _) hu, Nat.le_trans (Nat.le_add_right _ _) hv⟩ h (fun z55 r56 h => ?_)
                    refine x_pop C d_law_338 rfl ?_
                    refine x_aload_n C d_law_339 rfl 2 rfl ?_
                    refine x_aload_n C d_law_340 rfl 0 rfl ?_
                    refine x_iload_n C d_law_341 rfl 3 rfl ?_
                    refine x_iconst (v := 1) C d_law_342 (by decide) ?_
                    refine x_iadd C d_law_343 ?_
                    obtain ⟨g57, h⟩ := h
                    refine y_sld C hX hbl hbA g57 d_law_344 ?_
                    refine x_aload_n C d_law_345 rfl 0 rfl ?_
                    refine x_iload_n C d_law_346 rfl 3 rfl ?_
                    refine x_iconst (v := 2) C d_law_347 (by decide) ?_
                    refine x_iadd C d_law_348 ?_
                    obtain ⟨g58, h⟩ := h
                    refine y_sld C hX hbl hbA g58 d_law_349 ?_
                    refine x_aload_n C d_law_350 rfl 0 rfl ?_
                    refine x_iload_n C d_law_351 rfl 3 rfl ?_
                    refine x_iconst (v := 3) C d_law_352 (by decide) ?_
                    refine x_iadd C d_law_353 ?_
                    obtain ⟨g59, h⟩ := h
                    refine y_sld C hX hbl hbA g59 d_law_354 ?_
                    refine x_aload_n C d_law_355 rfl 0 rfl ?_
                    refine x_iload_n C d_law_356 rfl 3 rfl ?_
                    refine x_iconst (v := 4) C d_law_357 (by decide) ?_
                    refine x_iadd C d_law_358 ?_
                    obtain ⟨g60, h⟩ := h
                    refine y_sld C hX hbl hbA g60 d_law_359 ?_
                    refine kM_expression C wm991 ⟨Nat.le_of_ble_eq_true rfl, Nat.le_of_ble_eq_true rfl⟩ (Nat.le_of_ble_eq_true rfl) d_law_360 ⟨Nat.le_trans (Nat.le_add_right _ _) hu, Nat.le_trans (Nat.le_add_right _ _) hv⟩ h (fun z61 r62 h => ?_)
                    refine x_pop C d_law_363 rfl ?_
                    refine x_goto (tgt := 577) C d_law_364 (by decide) ?_
                    refine x_sub [0, 1, 2, 3] rfl ?_
                    exact t_lawF_J577 C hX hbl hbA kB18 kX583 a r62 kc ks v3 _ _ hu hv hfa h
                  · by_cases hn7 : ((xs v3.toNatClampNeg) &&& 31) = 7
                    · have h := h.2.2.2.2.2.2.2.1 hn7
                      refine x_tableIn (off := 335) (tgt := 367) C d_law_32 (by rw [hn7]; decide) (by rw [hn7]; decide) (by rw [hn7]; decide) (by decide) ?_
                      refine x_aload_n C d_law_367 rfl 1 rfl ?_
                      refine x_aload_n C d_law_368 rfl 0 rfl ?_
                      refine x_iload_n C d_law_369 rfl 3 rfl ?_
                      refine x_iconst (v := 1) C d_law_370 (by decide) ?_
                      refine x_iadd C d_law_371 ?_
                      obtain ⟨g63, h⟩ := h
                      refine y_sld C hX hbl hbA g63 d_law_372 ?_
                      obtain ⟨k67, s69, k68, s70, e74, e75, h⟩ := h
                      have hu9 : u + k67 ≤ 393230 := by omega
                      have hv9 : v + s69 ≤ 7922560 := by omega
                      refine kI_infer C wm415 ⟨Nat.le_of_ble_eq_true rfl, Nat.le_of_ble_eq_true rfl⟩ (Nat.le_of_ble_eq_true rfl) d_law_373 ⟨hu9, hv9⟩ h (fun z64 a66 r65 hf9 h => ?_)
                      have hu : (u + k67) + k68 ≤ 393230 := by omega
                      have hv : (v + s69) + s70 ≤ 7922560 := by omega
                      have h := h hf9
                      have hfa : fx a0 a66 := fx_trans hfa hf9
                      refine x_pop C d_law_376 rfl ?_
                      refine x_aload_n C d_law_377 rfl 2 rfl ?_
                      refine x_aload_n C d_law_378 rfl 0 rfl ?_
                      refine x_iload_n C d_law_379 rfl 3 rfl ?_
                      refine x_iconst (v := 1) C d_law_380 (by decide) ?_
                      refine x_iadd C d_law_381 ?_
                      obtain ⟨g71, h⟩ := h
                      refine y_sld C hX hbl hbA g71 d_law_382 ?_
                      refine kM_infer C wm999 ⟨Nat.le_of_ble_eq_true rfl, Nat.le_of_ble_eq_true rfl⟩ (Nat.le_of_ble_eq_true rfl) d_law_383 ⟨Nat.le_trans (Nat.le_add_right _ _) hu, Nat.le_trans (Nat.le_add_right _ _) hv⟩ h (fun z72 r73 h => ?_)
                      refine x_pop C d_law_386 rfl ?_
                      refine x_goto (tgt := 577) C d_law_387 (by decide) ?_
                      refine x_sub [0, 1, 2, 3] rfl ?_
                      exact t_lawF_J577 C hX hbl hbA kB18 kX583 a66 r73 k68 s70 v3 _ _ hu hv hfa h
                    · by_cases hn8 : ((xs v3.toNatClampNeg) &&& 31) = 8
                      · have h := h.2.2.2.2.2.2.2.2.1 hn8
                        refine x_tableIn (off := 358) (tgt := 390) C d_law_32 (by rw [hn8]; decide) (by rw [hn8]; decide) (by rw [hn8]; decide) (by decide) ?_
                        refine x_aload_n C d_law_390 rfl 1 rfl ?_
                        refine x_aload_n C d_law_391 rfl 0 rfl ?_
                        refine x_iload_n C d_law_392 rfl 3 rfl ?_
                        refine x_iconst (v := 1) C d_law_393 (by decide) ?_
                        refine x_iadd C d_law_394 ?_
                        obtain ⟨g76, h⟩ := h
                        refine y_sld C hX hbl hbA g76 d_law_395 ?_
                        refine kI_shape C wm641 ⟨Nat.le_of_ble_eq_true rfl, Nat.le_of_ble_eq_true rfl⟩ (Nat.le_of_ble_eq_true rfl) d_law_396 ⟨Nat.le_trans (Nat.le_add_right _ _) hu, Nat.le_trans (Nat.le_add_right _ _) hv⟩ h (fun z77 h => ?_)
                        refine x_pop C d_law_399 rfl ?_
                        refine x_aload_n C d_law_400 rfl 2 rfl ?_
                        refine x_aload_n C d_law_401 rfl 0 rfl ?_
                        refine x_iload_n C d_law_402 rfl 3 rfl ?_
                        refine x_iconst (v := 1) C d_law_403 (by decide) ?_
                        refine x_iadd C d_law_404 ?_
                        obtain ⟨g78, h⟩ := h
                        refine y_sld C hX hbl hbA g78 d_law_405 ?_
                        refine kM_shape C wm1110 ⟨Nat.le_of_ble_eq_true rfl, Nat.le_of_ble_eq_true rfl⟩ (Nat.le_of_ble_eq_true rfl) d_law_406 ⟨Nat.le_trans (Nat.le_add_right _ _) hu, Nat.le_trans (Nat.le_add_right _ _) hv⟩ h (fun z79 r80 h => ?_)
                        refine x_pop C d_law_409 rfl ?_
                        refine x_goto (tgt := 577) C d_law_410 (by decide) ?_
                        refine x_sub [0, 1, 2, 3] rfl ?_
                        exact t_lawF_J577 C hX hbl hbA kB18 kX583 a r80 kc ks v3 _ _ hu hv hfa h
                      · by_cases hn9 : ((xs v3.toNatClampNeg) &&& 31) = 9
                        · have h := h.2.2.2.2.2.2.2.2.2.1 hn9
                          refine x_tableIn (off := 381) (tgt := 413) C d_law_32 (by rw [hn9]; decide) (by rw [hn9]; decide) (by rw [hn9]; decide) (by decide) ?_
                          refine x_aload_n C d_law_413 rfl 1 rfl ?_
                          refine kI_wants C wm649 ⟨Nat.le_of_ble_eq_true rfl, Nat.le_of_ble_eq_true rfl⟩ (Nat.le_of_ble_eq_true rfl) d_law_414 ⟨Nat.le_trans (Nat.le_add_right _ _) hu, Nat.le_trans (Nat.le_add_right _ _) hv⟩ h (fun z81 h => ?_)
                          refine x_pop C d_law_417 rfl ?_
                          refine x_aload_n C d_law_418 rfl 2 rfl ?_
                          refine kM_wants C wm1118 ⟨Nat.le_of_ble_eq_true rfl, Nat.le_of_ble_eq_true rfl⟩ (Nat.le_of_ble_eq_true rfl) d_law_419 ⟨Nat.le_trans (Nat.le_add_right _ _) hu, Nat.le_trans (Nat.le_add_right _ _) hv⟩ h (fun z82 r83 h => ?_)
                          refine x_pop C d_law_422 rfl ?_
                          refine x_goto (tgt := 577) C d_law_423 (by decide) ?_
                          refine x_sub [0, 1, 2, 3] rfl ?_
                          exact t_lawF_J577 C hX hbl hbA kB18 kX583 a r83 kc ks v3 _ _ hu hv hfa h
                        · by_cases hn10 : ((xs v3.toNatClampNeg) &&& 31) = 10
                          · have h := h.2.2.2.2.2.2.2.2.2.2.1 hn10
                            refine x_tableIn (off := 394) (tgt := 426) C d_law_32 (by rw [hn10]; decide) (by rw [hn10]; decide) (by rw [hn10]; decide) (by decide) ?_
                            refine x_aload_n C d_law_426 rfl 1 rfl ?_
                            refine x_aload_n C d_law_427 rfl 0 rfl ?_
                            refine x_iload_n C d_law_428 rfl 3 rfl ?_
                            refine x_iconst (v := 1) C d_law_429 (by decide) ?_
                            refine x_iadd C d_law_430 ?_
                            obtain ⟨g84, h⟩ := h
                            refine y_sld C hX hbl hbA g84 d_law_431 ?_
                            refine x_aload_n C d_law_432 rfl 0 rfl ?_
                            refine x_iload_n C d_law_433 rfl 3 rfl ?_
                            refine x_iconst (v := 2) C d_law_434 (by decide) ?_
                            refine x_iadd C d_law_435 ?_
                            obtain ⟨g85, h⟩ := h
                            refine y_sld C hX hbl hbA g85 d_law_436 ?_
                            refine kI_want C wm657 ⟨Nat.le_of_ble_eq_true rfl, Nat.le_of_ble_eq_true rfl⟩ (Nat.le_of_ble_eq_true rfl) d_law_437 ⟨Nat.le_trans (Nat.le_add_right _ _) hu, Nat.le_trans (Nat.le_add_right _ _) hv⟩ h (fun z86 h => ?_)
                            refine x_aload_n C d_law_440 rfl 2 rfl ?_
                            refine x_aload_n C d_law_441 rfl 0 rfl ?_
                            refine x_iload_n C d_law_442 rfl 3 rfl ?_
                            refine x_iconst (v := 1) C d_law_443 (by decide) ?_
                            refine x_iadd C d_law_444 ?_
                            obtain ⟨g87, h⟩ := h
                            refine y_sld C hX hbl hbA g87 d_law_445 ?_
                            refine x_aload_n C d_law_446 rfl 0 rfl ?_
                            refine x_iload_n C d_law_447 rfl 3 rfl ?_
                            refine x_iconst (v := 2) C d_law_448 (by decide) ?_
                            refine x_iadd C d_law_449 ?_
                            obtain ⟨g88, h⟩ := h
                            refine y_sld C hX hbl hbA g88 d_law_450 ?_
                            refine kM_want C wm1122 ⟨Nat.le_of_ble_eq_true rfl, Nat.le_of_ble_eq_true rfl⟩ (Nat.le_of_ble_eq_true rfl) d_law_451 ⟨Nat.le_trans (Nat.le_add_right _ _) hu, Nat.le_trans (Nat.le_add_right _ _) hv⟩ h (fun z89 r90 h => ?_)
                            refine x_icmp_eq (tgt := 577) C d_law_454 (by decide) (fun g91 => ?_) (fun g91 => ?_)
                            · have h := h.1 g91
                              refine x_sub [0, 1, 2, 3] rfl ?_
                              exact t_lawF_J577 C hX hbl hbA kB18 kX583 a r90 kc ks v3 _ _ hu hv hfa h
                            · have h := h.2 g91
                              refine x_iconst (v := 0) C d_law_457 (by decide) ?_
                              exact absurd h (by decide)
                          · by_cases hn11 : ((xs v3.toNatClampNeg) &&& 31) = 11
                            · have h := h.2.2.2.2.2.2.2.2.2.2.2.1 hn11
                              refine x_tableIn (off := 427) (tgt := 459) C d_law_32 (by rw [hn11]; decide) (by rw [hn11]; decide) (by rw [hn11]; decide) (by decide) ?_
                              refine x_aload_n C d_law_459 rfl 1 rfl ?_
                              refine kI_passes C wm665 ⟨Nat.le_of_ble_eq_true rfl, Nat.le_of_ble_eq_true rfl⟩ (Nat.le_of_ble_eq_true rfl) d_law_460 ⟨Nat.le_trans (Nat.le_add_right _ _) hu, Nat.le_trans (Nat.le_add_right _ _) hv⟩ h (fun z92 h => ?_)
                              refine x_pop C d_law_463 rfl ?_
                              refine x_aload_n C d_law_464 rfl 2 rfl ?_
                              refine kM_passes C wm1126 ⟨Nat.le_of_ble_eq_true rfl, Nat.le_of_ble_eq_true rfl⟩ (Nat.le_of_ble_eq_true rfl) d_law_465 ⟨Nat.le_trans (Nat.le_add_right _ _) hu, Nat.le_trans (Nat.le_add_right _ _) hv⟩ h (fun z93 r94 h => ?_)
                              refine x_pop C d_law_468 rfl ?_
                              refine x_goto (tgt := 577) C d_law_469 (by decide) ?_
                              refine x_sub [0, 1, 2, 3] rfl ?_
                              exact t_lawF_J577 C hX hbl hbA kB18 kX583 a r94 kc ks v3 _ _ hu hv hfa h
                            · by_cases hn12 : ((xs v3.toNatClampNeg) &&& 31) = 12
                              · have h := h.2.2.2.2.2.2.2.2.2.2.2.2.1 hn12
                                refine x_tableIn (off := 440) (tgt := 472) C d_law_32 (by rw [hn12]; decide) (by rw [hn12]; decide) (by rw [hn12]; decide) (by decide) ?_
                                refine x_aload_n C d_law_472 rfl 1 rfl ?_
                                refine x_aload_n C d_law_473 rfl 0 rfl ?_
                                refine x_iload_n C d_law_474 rfl 3 rfl ?_
                                refine x_iconst (v := 1) C d_law_475 (by decide) ?_
                                refine x_iadd C d_law_476 ?_
                                obtain ⟨g95, h⟩ := h
                                refine y_sld C hX hbl hbA g95 d_law_477 ?_
                                refine x_aload_n C d_law_478 rfl 0 rfl ?_
                                refine x_iload_n C d_law_479 rfl 3 rfl ?_
                                refine x_iconst (v := 2) C d_law_480 (by decide) ?_
                                refine x_iadd C d_law_481 ?_
                                obtain ⟨g96, h⟩ := h
                                refine y_sld C hX hbl hbA g96 d_law_482 ?_
                                refine kI_is C wm673 ⟨Nat.le_of_ble_eq_true rfl, Nat.le_of_ble_eq_true rfl⟩ (Nat.le_of_ble_eq_true rfl) d_law_483 ⟨Nat.le_trans (Nat.le_add_right _ _) hu, Nat.le_trans (Nat.le_add_right _ _) hv⟩ h (fun z97 h => ?_)
                                refine x_pop C d_law_486 rfl ?_
                                refine x_aload_n C d_law_487 rfl 2 rfl ?_
                                refine x_aload_n C d_law_488 rfl 0 rfl ?_
                                refine x_iload_n C d_law_489 rfl 3 rfl ?_
                                refine x_iconst (v := 1) C d_law_490 (by decide) ?_
                                refine x_iadd C d_law_491 ?_
                                obtain ⟨g98, h⟩ := h
                                refine y_sld C hX hbl hbA g98 d_law_492 ?_
                                refine x_aload_n C d_law_493 rfl 0 rfl ?_
                                refine x_iload_n C d_law_494 rfl 3 rfl ?_
                                refine x_iconst (v := 2) C d_law_495 (by decide) ?_
                                refine x_iadd C d_law_496 ?_
                                obtain ⟨g99, h⟩ := h
                                refine y_sld C hX hbl hbA g99 d_law_497 ?_
                                refine kM_is C wm1130 ⟨Nat.le_of_ble_eq_true rfl, Nat.le_of_ble_eq_true rfl⟩ (Nat.le_of_ble_eq_true rfl) d_law_498 ⟨Nat.le_trans (Nat.le_add_right _ _) hu, Nat.le_trans (Nat.le_add_right _ _) hv⟩ h (fun z100 r101 h => ?_)
                                refine x_pop C d_law_501 rfl ?_
                                refine x_goto (tgt := 577) C d_law_502 (by decide) ?_
                                refine x_sub [0, 1, 2, 3] rfl ?_
                                exact t_lawF_J577 C hX hbl hbA kB18 kX583 a r101 kc ks v3 _ _ hu hv hfa h
                              · by_cases hn13 : ((xs v3.toNatClampNeg) &&& 31) = 13
                                · have h := h.2.2.2.2.2.2.2.2.2.2.2.2.2.1 hn13
                                  refine x_tableIn (off := 473) (tgt := 505) C d_law_32 (by rw [hn13]; decide) (by rw [hn13]; decide) (by rw [hn13]; decide) (by decide) ?_
                                  refine x_aload_n C d_law_505 rfl 1 rfl ?_
                                  refine x_aload_n C d_law_506 rfl 0 rfl ?_
                                  refine x_iload_n C d_law_507 rfl 3 rfl ?_
                                  refine x_iconst (v := 1) C d_law_508 (by decide) ?_
                                  refine x_iadd C d_law_509 ?_
                                  obtain ⟨g102, h⟩ := h
                                  refine y_sld C hX hbl hbA g102 d_law_510 ?_
                                  refine x_aload_n C d_law_511 rfl 0 rfl ?_
                                  refine x_iload_n C d_law_512 rfl 3 rfl ?_
                                  refine x_iconst (v := 2) C d_law_513 (by decide) ?_
                                  refine x_iadd C d_law_514 ?_
                                  obtain ⟨g103, h⟩ := h
                                  refine y_sld C hX hbl hbA g103 d_law_515 ?_
                                  refine kI_under C wm691 ⟨Nat.le_of_ble_eq_true rfl, Nat.le_of_ble_eq_true rfl⟩ (Nat.le_of_ble_eq_true rfl) d_law_516 ⟨Nat.le_trans (Nat.le_add_right _ _) hu, Nat.le_trans (Nat.le_add_right _ _) hv⟩ h (fun z104 h => ?_)
                                  refine x_pop C d_law_519 rfl ?_
                                  refine x_aload_n C d_law_520 rfl 2 rfl ?_
                                  refine x_aload_n C d_law_521 rfl 0 rfl ?_
                                  refine x_iload_n C d_law_522 rfl 3 rfl ?_
                                  refine x_iconst (v := 1) C d_law_523 (by decide) ?_
                                  refine x_iadd C d_law_524 ?_
                                  obtain ⟨g105, h⟩ := h
                                  refine y_sld C hX hbl hbA g105 d_law_525 ?_
                                  refine x_aload_n C d_law_526 rfl 0 rfl ?_
                                  refine x_iload_n C d_law_527 rfl 3 rfl ?_
                                  refine x_iconst (v := 2) C d_law_528 (by decide) ?_
                                  refine x_iadd C d_law_529 ?_
                                  obtain ⟨g106, h⟩ := h
                                  refine y_sld C hX hbl hbA g106 d_law_530 ?_
                                  refine kM_under C wm1134 ⟨Nat.le_of_ble_eq_true rfl, Nat.le_of_ble_eq_true rfl⟩ (Nat.le_of_ble_eq_true rfl) d_law_531 ⟨Nat.le_trans (Nat.le_add_right _ _) hu, Nat.le_trans (Nat.le_add_right _ _) hv⟩ h (fun z107 r108 h => ?_)
                                  refine x_pop C d_law_534 rfl ?_
                                  refine x_goto (tgt := 577) C d_law_535 (by decide) ?_
                                  refine x_sub [0, 1, 2, 3] rfl ?_
                                  exact t_lawF_J577 C hX hbl hbA kB18 kX583 a r108 kc ks v3 _ _ hu hv hfa h
                                · by_cases hn14 : ((xs v3.toNatClampNeg) &&& 31) = 14
                                  · have h := h.2.2.2.2.2.2.2.2.2.2.2.2.2.2.1 hn14
                                    refine x_tableIn (off := 506) (tgt := 538) C d_law_32 (by rw [hn14]; decide) (by rw [hn14]; decide) (by rw [hn14]; decide) (by decide) ?_
                                    refine x_aload_n C d_law_538 rfl 1 rfl ?_
                                    refine kI_types C wm696 ⟨Nat.le_of_ble_eq_true rfl, Nat.le_of_ble_eq_true rfl⟩ (Nat.le_of_ble_eq_true rfl) d_law_539 ⟨Nat.le_trans (Nat.le_add_right _ _) hu, Nat.le_trans (Nat.le_add_right _ _) hv⟩ h (fun z109 h => ?_)
                                    refine x_pop C d_law_542 rfl ?_
                                    refine x_aload_n C d_law_543 rfl 2 rfl ?_
                                    refine kM_types C wm1138 ⟨Nat.le_of_ble_eq_true rfl, Nat.le_of_ble_eq_true rfl⟩ (Nat.le_of_ble_eq_true rfl) d_law_544 ⟨Nat.le_trans (Nat.le_add_right _ _) hu, Nat.le_trans (Nat.le_add_right _ _) hv⟩ h (fun z110 r111 h => ?_)
                                    refine x_pop C d_law_547 rfl ?_
                                    refine x_goto (tgt := 577) C d_law_548 (by decide) ?_
                                    refine x_sub [0, 1, 2, 3] rfl ?_
                                    exact t_lawF_J577 C hX hbl hbA kB18 kX583 a r111 kc ks v3 _ _ hu hv hfa h
                                  · by_cases hn15 : ((xs v3.toNatClampNeg) &&& 31) = 15
                                    · have h := h.2.2.2.2.2.2.2.2.2.2.2.2.2.2.2.1 hn15
                                      refine x_tableIn (off := 519) (tgt := 551) C d_law_32 (by rw [hn15]; decide) (by rw [hn15]; decide) (by rw [hn15]; decide) (by decide) ?_
                                      refine x_aload_n C d_law_551 rfl 1 rfl ?_
                                      refine kI_classes C wm700 ⟨Nat.le_of_ble_eq_true rfl, Nat.le_of_ble_eq_true rfl⟩ (Nat.le_of_ble_eq_true rfl) d_law_552 ⟨Nat.le_trans (Nat.le_add_right _ _) hu, Nat.le_trans (Nat.le_add_right _ _) hv⟩ h (fun z112 h => ?_)
                                      refine x_pop C d_law_555 rfl ?_
                                      refine x_aload_n C d_law_556 rfl 2 rfl ?_
                                      refine kM_classes C wm1142 ⟨Nat.le_of_ble_eq_true rfl, Nat.le_of_ble_eq_true rfl⟩ (Nat.le_of_ble_eq_true rfl) d_law_557 ⟨Nat.le_trans (Nat.le_add_right _ _) hu, Nat.le_trans (Nat.le_add_right _ _) hv⟩ h (fun z113 r114 h => ?_)
                                      refine x_pop C d_law_560 rfl ?_
                                      refine x_goto (tgt := 577) C d_law_561 (by decide) ?_
                                      refine x_sub [0, 1, 2, 3] rfl ?_
                                      exact t_lawF_J577 C hX hbl hbA kB18 kX583 a r114 kc ks v3 _ _ hu hv hfa h
                                    · by_cases hn16 : ((xs v3.toNatClampNeg) &&& 31) = 16
                                      · have h := h.2.2.2.2.2.2.2.2.2.2.2.2.2.2.2.2.1 hn16
                                        refine x_tableIn (off := 532) (tgt := 564) C d_law_32 (by rw [hn16]; decide) (by rw [hn16]; decide) (by rw [hn16]; decide) (by decide) ?_
                                        refine x_aload_n C d_law_564 rfl 1 rfl ?_
                                        refine kI_expressions C wm704 ⟨Nat.le_of_ble_eq_true rfl, Nat.le_of_ble_eq_true rfl⟩ (Nat.le_of_ble_eq_true rfl) d_law_565 ⟨Nat.le_trans (Nat.le_add_right _ _) hu, Nat.le_trans (Nat.le_add_right _ _) hv⟩ h (fun z115 h => ?_)
                                        refine x_pop C d_law_568 rfl ?_
                                        refine x_aload_n C d_law_569 rfl 2 rfl ?_
                                        refine kM_expressions C wm1146 ⟨Nat.le_of_ble_eq_true rfl, Nat.le_of_ble_eq_true rfl⟩ (Nat.le_of_ble_eq_true rfl) d_law_570 ⟨Nat.le_trans (Nat.le_add_right _ _) hu, Nat.le_trans (Nat.le_add_right _ _) hv⟩ h (fun z116 r117 h => ?_)
                                        refine x_pop C d_law_573 rfl ?_
                                        refine x_goto (tgt := 577) C d_law_574 (by decide) ?_
                                        refine x_sub [0, 1, 2, 3] rfl ?_
                                        exact t_lawF_J577 C hX hbl hbA kB18 kX583 a r117 kc ks v3 _ _ hu hv hfa h
                                      · have ho : ((xs v3.toNatClampNeg) &&& 31).toInt < 0 ∨ 16 < ((xs v3.toNatClampNeg) &&& 31).toInt := by
                                          have hq : ∀ k : Int32, ¬ ((xs v3.toNatClampNeg) &&& 31) = k → ¬ ((xs v3.toNatClampNeg) &&& 31).toInt = k.toInt := fun k h9 h8 => h9 (Int32.toInt_inj.mp h8)
                                          have hm0 := hq 0 hn0
                                          have hm1 := hq 1 hn1
                                          have hm2 := hq 2 hn2
                                          have hm3 := hq 3 hn3
                                          have hm4 := hq 4 hn4
                                          have hm5 := hq 5 hn5
                                          have hm6 := hq 6 hn6
                                          have hm7 := hq 7 hn7
                                          have hm8 := hq 8 hn8
                                          have hm9 := hq 9 hn9
                                          have hm10 := hq 10 hn10
                                          have hm11 := hq 11 hn11
                                          have hm12 := hq 12 hn12
                                          have hm13 := hq 13 hn13
                                          have hm14 := hq 14 hn14
                                          have hm15 := hq 15 hn15
                                          have hm16 := hq 16 hn16
                                          simp only [show (0 : Int32).toInt = 0 from by decide, show (1 : Int32).toInt = 1 from by decide, show (2 : Int32).toInt = 2 from by decide, show (3 : Int32).toInt = 3 from by decide, show (4 : Int32).toInt = 4 from by decide, show (5 : Int32).toInt = 5 from by decide, show (6 : Int32).toInt = 6 from by decide, show (7 : Int32).toInt = 7 from by decide, show (8 : Int32).toInt = 8 from by decide, show (9 : Int32).toInt = 9 from by decide, show (10 : Int32).toInt = 10 from by decide, show (11 : Int32).toInt = 11 from by decide, show (12 : Int32).toInt = 12 from by decide, show (13 : Int32).toInt = 13 from by decide, show (14 : Int32).toInt = 14 from by decide, show (15 : Int32).toInt = 15 from by decide, show (16 : Int32).toInt = 16 from by decide] at hm0 hm1 hm2 hm3 hm4 hm5 hm6 hm7 hm8 hm9 hm10 hm11 hm12 hm13 hm14 hm15 hm16
                                          omega
                                        have h := h.2.2.2.2.2.2.2.2.2.2.2.2.2.2.2.2.2 ho
                                        refine x_tableOut (tgt := 577) C d_law_32 ho (by decide) ?_
                                        refine x_sub [0, 1, 2, 3] rfl ?_
                                        exact t_lawF_J577 C hX hbl hbA kB18 kX583 a r kc ks v3 _ _ hu hv hfa h
end LAWF
