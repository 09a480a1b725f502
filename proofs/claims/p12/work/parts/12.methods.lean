section MTH
variable {p : Program} {l : Launch} {e : Env} {s : State} {m : MethodId} {args : Array Value} {below : List Frame} {meth : Method} {c : Code} {Q : State → Prop} {A : Nat → Prop} {D : va_G} {G : G_} {ws0 : va_W}
def qK_fits (a : L_) (r : S_) (K : Int32 → Prop) (p0 : Int32) (p1 : Int32) (p2 : Int32) (p3 : Int32) : Prop :=
  qK_slot a r (fun z1 => vp_in z1 (ln a 9) ∧ (((ar r 9 z1.toNatClampNeg) = (-1)) → vp_in p0 (ln a 6) ∧ ((¬ (ar r 6 p0.toNatClampNeg) = (-1)) → vp_in p0 (ln a 6) ∧ qK_slot a r (fun z7 => vp_in z7 (ln a 9) ∧ (((ar r 9 z7.toNatClampNeg) = (-1)) → zb 0 ∧ K 0) ∧ ((¬ (ar r 9 z7.toNatClampNeg) = (-1)) → vp_in z7 (ln a 10) ∧ qK_reaches a r (fun z12 => zb z12 → ((z12 = 0) → zb 0 ∧ K 0) ∧ ((¬ z12 = 0) → vp_in z7 (ln a 11) ∧ qK_reaches a r (fun z16 => zb z16 → ((z16 = 0) → zb 0 ∧ K 0) ∧ ((¬ z16 = 0) → zb 1 ∧ K 1)) p3 (ar r 11 z7.toNatClampNeg))) p2 (ar r 10 z7.toNatClampNeg))) (ar r 6 p0.toNatClampNeg) p1) ∧ (((ar r 6 p0.toNatClampNeg) = (-1)) → zb 1 ∧ K 1)) ∧ ((¬ (ar r 9 z1.toNatClampNeg) = (-1)) → zb 0 ∧ K 0)) p0 p1
set_option maxRecDepth 100000 in
set_option maxHeartbeats 4000000 in
theorem cK_fits {a : L_} {r : S_} {K : Int32 → Prop} (p0 : Int32) (p1 : Int32) (p2 : Int32) (p3 : Int32) (h : qK_fits a r K p0 p1 p2 p3) : vx_Mi l yK_fits (Cond.code yK_fits prog_2_method_8_code 6 (some .boolean) :: wAll) { frames := 1, cells := 0, slots := 0, locals := 24 } D vwCl (tysG G) nwAll (wo G a r) [.ref (ob G 2), .int p0, .int p1, .int p2, .int p3] 0 0 (fun v w => w = wo G a r ∧ zb v ∧ K v) := by
  unfold qK_fits at h
  refine x_meti (cc := prog_2_method_8_code) (maxL := 6) (ret := (some .boolean)) (lv0 := [(0, .ref (ob G 2)), (1, .int p0), (2, .int p1), (3, .int p2), (4, .int p3)]) (by decide) rfl (Nat.le_of_ble_eq_true rfl) rfl ?_
  intro p e s m args below meth c A C hA hlocks hr
  refine x_aload_n C dK_fits_0 rfl 0 rfl ?_
  refine gf_2_4 C (List.mem_cons_of_mem _ wm74) dK_fits_1 ?_
  refine x_iload_n C dK_fits_4 rfl 1 rfl ?_
  refine x_iload_n C dK_fits_5 rfl 2 rfl ?_
  refine kK_slot C wm382 ⟨Nat.le_of_ble_eq_true rfl, Nat.le_of_ble_eq_true rfl⟩ (Nat.le_of_ble_eq_true rfl) dK_fits_6 ⟨Nat.zero_le _, Nat.zero_le _⟩ h (fun z1 h => ?_)
  obtain ⟨g2, h⟩ := h
  refine y_ia C 9 (by decide) g2 dK_fits_9 ?_
  refine x_iconst (v := (-1)) C dK_fits_10 (by decide) ?_
  refine x_icmp_eq (tgt := 16) C dK_fits_11 (by decide) (fun g3 => ?_) (fun g3 => ?_)
  · have h := h.1 g3
    refine x_aload_n C dK_fits_16 rfl 0 rfl ?_
    refine gf_2_0 C (List.mem_cons_of_mem _ wm69) dK_fits_17 ?_
    refine x_iload_n C dK_fits_20 rfl 1 rfl ?_
    obtain ⟨g4, h⟩ := h
    refine y_ia C 6 (by decide) g4 dK_fits_21 ?_
    refine x_iconst (v := (-1)) C dK_fits_22 (by decide) ?_
    refine x_icmp_ne (tgt := 28) C dK_fits_23 (by decide) (fun g5 => ?_) (fun g5 => ?_)
    · have h := h.1 g5
      refine x_aload_n C dK_fits_28 rfl 0 rfl ?_
      refine gf_2_0 C (List.mem_cons_of_mem _ wm69) dK_fits_29 ?_
      refine x_iload_n C dK_fits_32 rfl 1 rfl ?_
      obtain ⟨g6, h⟩ := h
      refine y_ia C 6 (by decide) g6 dK_fits_33 ?_
      refine x_iload_n C dK_fits_34 rfl 2 rfl ?_
      refine kK_slot C wm382 ⟨Nat.le_of_ble_eq_true rfl, Nat.le_of_ble_eq_true rfl⟩ (Nat.le_of_ble_eq_true rfl) dK_fits_35 ⟨Nat.zero_le _, Nat.zero_le _⟩ h (fun z7 h => ?_)
      refine x_istore C [(5, .int z7), (0, .ref (ob G 2)), (1, .int p0), (2, .int p1), (3, .int p2), (4, .int p3)] dK_fits_38 (by decide) rfl ?_
      refine x_aload_n C dK_fits_40 rfl 1 rfl ?_
      refine gf_2_4 C (List.mem_cons_of_mem _ wm74) dK_fits_41 ?_
      refine x_iload C dK_fits_44 0 rfl ?_
      obtain ⟨g8, h⟩ := h
      refine y_ia C 9 (by decide) g8 dK_fits_46 ?_
      refine x_iconst (v := (-1)) C dK_fits_47 (by decide) ?_
      refine x_icmp_eq (tgt := 86) C dK_fits_48 (by decide) (fun g9 => ?_) (fun g9 => ?_)
      · have h := h.1 g9
        refine x_iconst (v := 0) C dK_fits_86 (by decide) ?_
        obtain ⟨g10, h⟩ := h
        exact x_zret C hA hlocks hr (zb_n g10) ⟨rfl, g10, h⟩ dK_fits_87
      · have h := h.2 g9
        refine x_aload_n C dK_fits_51 rfl 1 rfl ?_
        refine x_iload_n C dK_fits_52 rfl 4 rfl ?_
        refine x_aload_n C dK_fits_53 rfl 1 rfl ?_
        refine gf_2_5 C (List.mem_cons_of_mem _ wm75) dK_fits_54 ?_
        refine x_iload C dK_fits_57 0 rfl ?_
        obtain ⟨g11, h⟩ := h
        refine y_ia C 10 (by decide) g11 dK_fits_59 ?_
        refine kK_reaches C wm385 ⟨Nat.le_of_ble_eq_true rfl, Nat.le_of_ble_eq_true rfl⟩ (Nat.le_of_ble_eq_true rfl) dK_fits_60 ⟨Nat.zero_le _, Nat.zero_le _⟩ h (fun z12 hzz12 h => ?_)
        have h := h hzz12
        refine x_if_eq (tgt := 86) C dK_fits_63 (by decide) (fun g13 => ?_) (fun g13 => ?_)
        · have h := h.1 g13
          refine x_iconst (v := 0) C dK_fits_86 (by decide) ?_
          obtain ⟨g14, h⟩ := h
          exact x_zret C hA hlocks hr (zb_n g14) ⟨rfl, g14, h⟩ dK_fits_87
        · have h := h.2 g13
          refine x_aload_n C dK_fits_66 rfl 1 rfl ?_
          refine x_iload C dK_fits_67 5 rfl ?_
          refine x_aload_n C dK_fits_69 rfl 1 rfl ?_
          refine gf_2_6 C (List.mem_cons_of_mem _ wm77) dK_fits_70 ?_
          refine x_iload C dK_fits_73 0 rfl ?_
          obtain ⟨g15, h⟩ := h
          refine y_ia C 11 (by decide) g15 dK_fits_75 ?_
          refine kK_reaches C wm385 ⟨Nat.le_of_ble_eq_true rfl, Nat.le_of_ble_eq_true rfl⟩ (Nat.le_of_ble_eq_true rfl) dK_fits_76 ⟨Nat.zero_le _, Nat.zero_le _⟩ h (fun z16 hzz16 h => ?_)
          have h := h hzz16
          refine x_if_eq (tgt := 86) C dK_fits_79 (by decide) (fun g17 => ?_) (fun g17 => ?_)
          · have h := h.1 g17
            refine x_iconst (v := 0) C dK_fits_86 (by decide) ?_
            obtain ⟨g18, h⟩ := h
            exact x_zret C hA hlocks hr (zb_n g18) ⟨rfl, g18, h⟩ dK_fits_87
          · have h := h.2 g17
            refine x_iconst (v := 1) C dK_fits_82 (by decide) ?_
            refine x_goto (tgt := 87) C dK_fits_83 (by decide) ?_
            obtain ⟨g19, h⟩ := h
            exact x_zret C hA hlocks hr (zb_n g19) ⟨rfl, g19, h⟩ dK_fits_87
    · have h := h.2 g5
      refine x_iconst (v := 1) C dK_fits_26 (by decide) ?_
      obtain ⟨g20, h⟩ := h
      exact x_zret C hA hlocks hr (zb_n g20) ⟨rfl, g20, h⟩ dK_fits_27
  · have h := h.2 g3
    refine x_iconst (v := 0) C dK_fits_14 (by decide) ?_
    obtain ⟨g21, h⟩ := h
    exact x_zret C hA hlocks hr (zb_n g21) ⟨rfl, g21, h⟩ dK_fits_15
set_option maxRecDepth 100000 in
set_option maxHeartbeats 4000000 in
theorem kK_fits {p : Program} {l : Launch} {e : Env} {R : Room} {s : State} {m : MethodId} {args : Array Value} {below : List Frame} {meth : Method} {c : Code} {cells slots : Nat} {Q : State → Prop} {A : Nat → Prop} {D : va_G} {nL pc : Nat} {cc : ByteArray} {cw : Cond} {own : String} {lv : List (Nat × Value)} {st : List Value} {G : G_} {a : L_} {r : S_} {K : Int32 → Prop} {p0 : Int32} {p1 : Int32} {p2 : Int32} {p3 : Int32} (C : vx_C p s m args c cc nL (cw :: wAll) own D vwCl (tysG G) nwAll A) {i : Nat} (hl : Cond.methodLink own i yK_fits ∈ wAll) (hR : 1 + 1 ≤ R.frames ∧ 8 + (6 + 11) + 24 ≤ R.locals) (hst : (st.map fun v => v.category).sum ≤ 8) (hd : decode cc pc = .ok (.invokevirtual i, 3)) (hcs : cells ≤ R.cells ∧ slots ≤ R.slots) (h : qK_fits a r K p0 p1 p2 p3) (k : ∀ (v : Int32), zb v → K v → vx_V p l e R s m args below meth c A D vwCl nL cells slots Q (wo G a r) (pc + 3) lv (.int v :: st)) : vx_V p l e R s m args below meth c A D vwCl nL cells slots Q (wo G a r) pc lv (.int p3 :: .int p2 :: .int p1 :: .int p0 :: .ref (ob G 2) :: st) := by
  refine x_callVi C (CC := "ClassInference$ClassTable") (ci := 2) (q0 := 2) (fs := fl2 G a r) (As := [.int p0, .int p1, .int p2, .int p3]) rfl rfl (cK_fits p0 p1 p2 p3 h) (cwV (C := "ClassInference$ClassTable") 4 C.1.2.2.2.2 (goodV hl wm380 wp2 wm3 wm381) rfl rfl rfl (by decide +kernel) hR) rfl hst hd hcs (fun v w hw => ?_)
  obtain ⟨rfl, h⟩ := hw
  exact k v h.1 h.2
def qK_addInstance (a : L_) (K : Int32 → S_ → Prop) (r : S_) (p0 : Int32) (p1 : Int32) (p2 : Int32) (p3 : Int32) : Prop :=
  qK_fits a r (fun z1 => zb z1 → ((¬ z1 = 0) → qK_slot a r (fun z3 => vp_in z3 (ln a 9) ∧ ∀ r5 : S_, r5 = sA r 9 (upd (ar r 9) z3.toNatClampNeg (fi r 3)) → vp_in z3 (ln a 10) ∧ ∀ r7 : S_, r7 = sA r5 10 (upd (ar r5 10) z3.toNatClampNeg p2) → vp_in z3 (ln a 11) ∧ ∀ r9 : S_, r9 = sA r7 11 (upd (ar r7 11) z3.toNatClampNeg p3) → ∀ r10 : S_, r10 = sF r9 3 ((fi r9 3) + 1) → K ((fi r10 3) - 1) r10) p0 p1) ∧ ((z1 = 0) → K (-2) r)) p0 p1 p2 p3
set_option maxRecDepth 100000 in
set_option maxHeartbeats 4000000 in
theorem cK_addInstance {a : L_} {r : S_} {K : Int32 → S_ → Prop} (p0 : Int32) (p1 : Int32) (p2 : Int32) (p3 : Int32) (h : qK_addInstance a K r p0 p1 p2 p3) : vx_Mi l yK_addInstance (Cond.code yK_addInstance prog_2_method_7_code 6 (some .int) :: wAll) { frames := 2, cells := 0, slots := 0, locals := 49 } D vwCl (tysG G) nwAll (wo G a r) [.ref (ob G 2), .int p0, .int p1, .int p2, .int p3] 0 0 (fun v w => ∃ r1, w = wo G a r1 ∧ K v r1) := by
  unfold qK_addInstance at h
  refine x_meti (cc := prog_2_method_7_code) (maxL := 6) (ret := (some .int)) (lv0 := [(0, .ref (ob G 2)), (1, .int p0), (2, .int p1), (3, .int p2), (4, .int p3)]) (by decide) rfl (Nat.le_of_ble_eq_true rfl) rfl ?_
  intro p e s m args below meth c A C hA hlocks hr
  refine x_aload_n C dK_addInstance_0 rfl 0 rfl ?_
  refine x_iload_n C dK_addInstance_1 rfl 1 rfl ?_
  refine x_iload_n C dK_addInstance_2 rfl 2 rfl ?_
  refine x_iload_n C dK_addInstance_3 rfl 3 rfl ?_
  refine x_iload C dK_addInstance_4 4 rfl ?_
  refine kK_fits C wm378 ⟨Nat.le_of_ble_eq_true rfl, Nat.le_of_ble_eq_true rfl⟩ (Nat.le_of_ble_eq_true rfl) dK_addInstance_6 ⟨Nat.zero_le _, Nat.zero_le _⟩ h (fun z1 hzz1 h => ?_)
  have h := h hzz1
  refine x_if_ne (tgt := 15) C dK_addInstance_9 (by decide) (fun g2 => ?_) (fun g2 => ?_)
  · have h := h.1 g2
    refine x_iload_n C dK_addInstance_15 rfl 1 rfl ?_
    refine x_iload_n C dK_addInstance_16 rfl 2 rfl ?_
    refine kK_slot C wm382 ⟨Nat.le_of_ble_eq_true rfl, Nat.le_of_ble_eq_true rfl⟩ (Nat.le_of_ble_eq_true rfl) dK_addInstance_17 ⟨Nat.zero_le _, Nat.zero_le _⟩ h (fun z3 h => ?_)
    refine x_istore C [(5, .int z3), (0, .ref (ob G 2)), (1, .int p0), (2, .int p1), (3, .int p2), (4, .int p3)] dK_addInstance_20 (by decide) rfl ?_
    refine x_aload_n C dK_addInstance_22 rfl 1 rfl ?_
    refine gf_2_4 C (List.mem_cons_of_mem _ wm74) dK_addInstance_23 ?_
    refine x_iload C dK_addInstance_26 0 rfl ?_
    refine x_aload_n C dK_addInstance_28 rfl 1 rfl ?_
    refine gf_2_7 C (List.mem_cons_of_mem _ wm79) dK_addInstance_29 ?_
    obtain ⟨g4, h⟩ := h
    refine y_is C 9 (by decide) g4 dK_addInstance_32 (fun r5 er5 => ?_)
    have h := h r5 er5
    refine x_aload_n C dK_addInstance_33 rfl 1 rfl ?_
    refine gf_2_5 C (List.mem_cons_of_mem _ wm75) dK_addInstance_34 ?_
    refine x_iload C dK_addInstance_37 0 rfl ?_
    refine x_iload_n C dK_addInstance_39 rfl 4 rfl ?_
    obtain ⟨g6, h⟩ := h
    refine y_is C 10 (by decide) g6 dK_addInstance_40 (fun r7 er7 => ?_)
    have h := h r7 er7
    refine x_aload_n C dK_addInstance_41 rfl 1 rfl ?_
    refine gf_2_6 C (List.mem_cons_of_mem _ wm77) dK_addInstance_42 ?_
    refine x_iload C dK_addInstance_45 0 rfl ?_
    refine x_iload C dK_addInstance_47 5 rfl ?_
    obtain ⟨g8, h⟩ := h
    refine y_is C 11 (by decide) g8 dK_addInstance_49 (fun r9 er9 => ?_)
    have h := h r9 er9
    refine x_aload_n C dK_addInstance_50 rfl 1 rfl ?_
    refine x_dup C dK_addInstance_51 rfl ?_
    refine gf_2_7 C (List.mem_cons_of_mem _ wm79) dK_addInstance_52 ?_
    refine x_iconst (v := 1) C dK_addInstance_55 (by decide) ?_
    refine x_iadd C dK_addInstance_56 ?_
    refine pf_2_7 C (List.mem_cons_of_mem _ wm79) dK_addInstance_57 (fun r10 er10 => ?_)
    have h := h r10 er10
    refine x_aload_n C dK_addInstance_60 rfl 1 rfl ?_
    refine gf_2_7 C (List.mem_cons_of_mem _ wm79) dK_addInstance_61 ?_
    refine x_iconst (v := 1) C dK_addInstance_64 (by decide) ?_
    refine x_isub C dK_addInstance_65 ?_
    exact x_iret C hA hlocks hr ⟨r10, rfl, h⟩ dK_addInstance_66
  · have h := h.2 g2
    refine x_bipush (v := (-2)) C dK_addInstance_12 (by decide) ?_
    exact x_iret C hA hlocks hr ⟨r, rfl, h⟩ dK_addInstance_14
set_option maxRecDepth 100000 in
set_option maxHeartbeats 4000000 in
theorem kK_addInstance {p : Program} {l : Launch} {e : Env} {R : Room} {s : State} {m : MethodId} {args : Array Value} {below : List Frame} {meth : Method} {c : Code} {cells slots : Nat} {Q : State → Prop} {A : Nat → Prop} {D : va_G} {nL pc : Nat} {cc : ByteArray} {cw : Cond} {own : String} {lv : List (Nat × Value)} {st : List Value} {G : G_} {a : L_} {r : S_} {K : Int32 → S_ → Prop} {p0 : Int32} {p1 : Int32} {p2 : Int32} {p3 : Int32} (C : vx_C p s m args c cc nL (cw :: wAll) own D vwCl (tysG G) nwAll A) {i : Nat} (hl : Cond.methodLink own i yK_addInstance ∈ wAll) (hR : 2 + 1 ≤ R.frames ∧ 8 + (6 + 11) + 49 ≤ R.locals) (hst : (st.map fun v => v.category).sum ≤ 8) (hd : decode cc pc = .ok (.invokevirtual i, 3)) (hcs : cells ≤ R.cells ∧ slots ≤ R.slots) (h : qK_addInstance a K r p0 p1 p2 p3) (k : ∀ (v : Int32) (r1 : S_), K v r1 → vx_V p l e R s m args below meth c A D vwCl nL cells slots Q (wo G a r1) (pc + 3) lv (.int v :: st)) : vx_V p l e R s m args below meth c A D vwCl nL cells slots Q (wo G a r) pc lv (.int p3 :: .int p2 :: .int p1 :: .int p0 :: .ref (ob G 2) :: st) := by
  refine x_callVi C (CC := "ClassInference$ClassTable") (ci := 2) (q0 := 2) (fs := fl2 G a r) (As := [.int p0, .int p1, .int p2, .int p3]) rfl rfl (cK_addInstance p0 p1 p2 p3 h) (cwV (C := "ClassInference$ClassTable") 4 C.1.2.2.2.2 (goodV hl wm375 wm376 wm3 wm377) rfl rfl rfl (by decide +kernel) hR) rfl hst hd hcs (fun v w hw => ?_)
  obtain ⟨r1, rfl, h⟩ := hw
  exact k v r1 h
def qI_instance_J87 (a : L_) (K : Int32 → S_ → Prop) (r : S_) (u0 : Int32) (u1 : Int32) (u2 : Int32) (u3 : Int32) : Prop :=
  qK_addInstance a (fun z12 r13 => K z12 r13) r u3 u2 u1 u0
set_option maxRecDepth 100000 in
set_option maxHeartbeats 4000000 in
theorem tI_instance_J87 (C : vx_C p s m args c prog_1_method_7_code 6 (Cond.code yI_instance prog_1_method_7_code 6 (some .int) :: wAll) "ClassInference" D vwCl (tysG G) nwAll A) (hA : A = va_A ws0 s.heap.size) (hlocks : meth.locks = false) (hr : meth.sig.returnType = (some .int)) {a : L_} {K : Int32 → S_ → Prop} (r : S_) (u0 : Int32) (u1 : Int32) (u2 : Int32) (u3 : Int32) (h : qI_instance_J87 a K r u0 u1 u2 u3) : vx_V p l e { frames := 3, cells := 0, slots := 0, locals := 74 } s m args below meth c A D vwCl 6 0 0 (MQ below (va_Qi (fun v w => ∃ r1, w = wo G a r1 ∧ K v r1) (vx_B D vwCl (tysG G) A) A) args s 0 0 A) (wo G a r) 87 [] [.int u0, .int u1, .int u2, .int u3, .ref (ob G 2)] := by
  unfold qI_instance_J87 at h
  refine kK_addInstance C wm374 ⟨Nat.le_of_ble_eq_true rfl, Nat.le_of_ble_eq_true rfl⟩ (Nat.le_of_ble_eq_true rfl) dI_instance_87 ⟨Nat.zero_le _, Nat.zero_le _⟩ h (fun z12 r13 h => ?_)
  exact x_iret C hA hlocks hr ⟨r13, rfl, h⟩ dI_instance_90
def qI_instance_J75 (a : L_) (K : Int32 → S_ → Prop) (r : S_) (v4 : Int32) (v5 : Int32) (u0 : Int32) (u1 : Int32) (u2 : Int32) : Prop :=
  ((v5 ≤ 1) → qI_instance_J87 a K r 0 u0 u1 u2) ∧ ((¬ v5 ≤ 1) → qI_instance_J87 a K r v4 u0 u1 u2)
set_option maxRecDepth 100000 in
set_option maxHeartbeats 4000000 in
theorem tI_instance_J75 (C : vx_C p s m args c prog_1_method_7_code 6 (Cond.code yI_instance prog_1_method_7_code 6 (some .int) :: wAll) "ClassInference" D vwCl (tysG G) nwAll A) (hA : A = va_A ws0 s.heap.size) (hlocks : meth.locks = false) (hr : meth.sig.returnType = (some .int)) {a : L_} {K : Int32 → S_ → Prop} (r : S_) (v4 : Int32) (v5 : Int32) (u0 : Int32) (u1 : Int32) (u2 : Int32) (h : qI_instance_J75 a K r v4 v5 u0 u1 u2) : vx_V p l e { frames := 3, cells := 0, slots := 0, locals := 74 } s m args below meth c A D vwCl 6 0 0 (MQ below (va_Qi (fun v w => ∃ r1, w = wo G a r1 ∧ K v r1) (vx_B D vwCl (tysG G) A) A) args s 0 0 A) (wo G a r) 75 [(4, .int v4), (5, .int v5)] [.int u0, .int u1, .int u2, .ref (ob G 2)] := by
  unfold qI_instance_J75 at h
  refine x_iload C dI_instance_75 1 rfl ?_
  refine x_iconst (v := 1) C dI_instance_77 (by decide) ?_
  refine x_icmp_le (tgt := 86) C dI_instance_78 (by decide) (fun g11 => ?_) (fun g11 => ?_)
  · have h := h.1 g11
    refine x_iconst (v := 0) C dI_instance_86 (by decide) ?_
    refine x_sub [] rfl ?_
    exact tI_instance_J87 C hA hlocks hr r 0 u0 u1 u2 h
  · have h := h.2 g11
    refine x_iload C dI_instance_81 0 rfl ?_
    refine x_goto (tgt := 87) C dI_instance_83 (by decide) ?_
    refine x_sub [] rfl ?_
    exact tI_instance_J87 C hA hlocks hr r v4 u0 u1 u2 h
def qI_instance (a : L_) (K : Int32 → S_ → Prop) (r : S_) (p0 : Int32) (p1 : Int32) (p2 : Int32) (p3 : Int32) : Prop :=
  qK_hasClass a r (fun z1 => zb z1 → ((z1 = 0) → K (-1) r) ∧ ((¬ z1 = 0) → qT_hasConstructor a r (fun z3 => zb z3 → ((¬ z3 = 0) → qK_areClasses a r (fun z5 => zb z5 → ((z5 = 0) → K (-1) r) ∧ ((¬ z5 = 0) → qK_areClasses a r (fun z7 => zb z7 → ((¬ z7 = 0) → qT_partsOf a r (fun z9 => ((z9 ≤ 0) → qI_instance_J75 a K r p3 z9 0 p1 p0) ∧ ((¬ z9 ≤ 0) → qI_instance_J75 a K r p3 z9 p2 p1 p0)) p1) ∧ ((z7 = 0) → K (-1) r)) p3)) p2) ∧ ((z3 = 0) → K (-1) r)) p1)) p0
set_option maxRecDepth 100000 in
set_option maxHeartbeats 4000000 in
theorem cI_instance {a : L_} {r : S_} {K : Int32 → S_ → Prop} (p0 : Int32) (p1 : Int32) (p2 : Int32) (p3 : Int32) (h : qI_instance a K r p0 p1 p2 p3) : vx_Mi l yI_instance (Cond.code yI_instance prog_1_method_7_code 6 (some .int) :: wAll) { frames := 3, cells := 0, slots := 0, locals := 74 } D vwCl (tysG G) nwAll (wo G a r) [.ref (ob G 0), .int p0, .int p1, .int p2, .int p3] 0 0 (fun v w => ∃ r1, w = wo G a r1 ∧ K v r1) := by
  unfold qI_instance at h
  refine x_meti (cc := prog_1_method_7_code) (maxL := 6) (ret := (some .int)) (lv0 := [(0, .ref (ob G 0)), (1, .int p0), (2, .int p1), (3, .int p2), (4, .int p3)]) (by decide) rfl (Nat.le_of_ble_eq_true rfl) rfl ?_
  intro p e s m args below meth c A C hA hlocks hr
  refine x_aload_n C dI_instance_0 rfl 0 rfl ?_
  refine gf_0_1 C (List.mem_cons_of_mem _ wm279) dI_instance_1 ?_
  refine x_iload_n C dI_instance_4 rfl 1 rfl ?_
  refine kK_hasClass C wm342 ⟨Nat.le_of_ble_eq_true rfl, Nat.le_of_ble_eq_true rfl⟩ (Nat.le_of_ble_eq_true rfl) dI_instance_5 ⟨Nat.zero_le _, Nat.zero_le _⟩ h (fun z1 hzz1 h => ?_)
  have h := h hzz1
  refine x_if_eq (tgt := 22) C dI_instance_8 (by decide) (fun g2 => ?_) (fun g2 => ?_)
  · have h := h.1 g2
    refine x_iconst (v := (-1)) C dI_instance_22 (by decide) ?_
    exact x_iret C hA hlocks hr ⟨r, rfl, h⟩ dI_instance_23
  · have h := h.2 g2
    refine x_aload_n C dI_instance_11 rfl 0 rfl ?_
    refine gf_0_0 C (List.mem_cons_of_mem _ wm278) dI_instance_12 ?_
    refine x_iload_n C dI_instance_15 rfl 2 rfl ?_
    refine kT_hasConstructor C wm322 ⟨Nat.le_of_ble_eq_true rfl, Nat.le_of_ble_eq_true rfl⟩ (Nat.le_of_ble_eq_true rfl) dI_instance_16 ⟨Nat.zero_le _, Nat.zero_le _⟩ h (fun z3 hzz3 h => ?_)
    have h := h hzz3
    refine x_if_ne (tgt := 24) C dI_instance_19 (by decide) (fun g4 => ?_) (fun g4 => ?_)
    · have h := h.1 g4
      refine x_aload_n C dI_instance_24 rfl 0 rfl ?_
      refine gf_0_1 C (List.mem_cons_of_mem _ wm279) dI_instance_25 ?_
      refine x_iload_n C dI_instance_28 rfl 3 rfl ?_
      refine kK_areClasses C wm370 ⟨Nat.le_of_ble_eq_true rfl, Nat.le_of_ble_eq_true rfl⟩ (Nat.le_of_ble_eq_true rfl) dI_instance_29 ⟨Nat.zero_le _, Nat.zero_le _⟩ h (fun z5 hzz5 h => ?_)
      have h := h hzz5
      refine x_if_eq (tgt := 47) C dI_instance_32 (by decide) (fun g6 => ?_) (fun g6 => ?_)
      · have h := h.1 g6
        refine x_iconst (v := (-1)) C dI_instance_47 (by decide) ?_
        exact x_iret C hA hlocks hr ⟨r, rfl, h⟩ dI_instance_48
      · have h := h.2 g6
        refine x_aload_n C dI_instance_35 rfl 0 rfl ?_
        refine gf_0_1 C (List.mem_cons_of_mem _ wm279) dI_instance_36 ?_
        refine x_iload C dI_instance_39 4 rfl ?_
        refine kK_areClasses C wm370 ⟨Nat.le_of_ble_eq_true rfl, Nat.le_of_ble_eq_true rfl⟩ (Nat.le_of_ble_eq_true rfl) dI_instance_41 ⟨Nat.zero_le _, Nat.zero_le _⟩ h (fun z7 hzz7 h => ?_)
        have h := h hzz7
        refine x_if_ne (tgt := 49) C dI_instance_44 (by decide) (fun g8 => ?_) (fun g8 => ?_)
        · have h := h.1 g8
          refine x_aload_n C dI_instance_49 rfl 0 rfl ?_
          refine gf_0_0 C (List.mem_cons_of_mem _ wm278) dI_instance_50 ?_
          refine x_iload_n C dI_instance_53 rfl 2 rfl ?_
          refine kT_partsOf C wm326 ⟨Nat.le_of_ble_eq_true rfl, Nat.le_of_ble_eq_true rfl⟩ (Nat.le_of_ble_eq_true rfl) dI_instance_54 ⟨Nat.zero_le _, Nat.zero_le _⟩ h (fun z9 h => ?_)
          refine x_istore C [(5, .int z9), (0, .ref (ob G 0)), (1, .int p0), (2, .int p1), (3, .int p2), (4, .int p3)] dI_instance_57 (by decide) rfl ?_
          refine x_aload_n C dI_instance_59 rfl 1 rfl ?_
          refine gf_0_1 C (List.mem_cons_of_mem _ wm279) dI_instance_60 ?_
          refine x_iload_n C dI_instance_63 rfl 2 rfl ?_
          refine x_iload_n C dI_instance_64 rfl 3 rfl ?_
          refine x_iload C dI_instance_65 0 rfl ?_
          refine x_if_le (tgt := 74) C dI_instance_67 (by decide) (fun g10 => ?_) (fun g10 => ?_)
          · have h := h.1 g10
            refine x_iconst (v := 0) C dI_instance_74 (by decide) ?_
            refine x_sub [5, 0] rfl ?_
            exact tI_instance_J75 C hA hlocks hr r p3 z9 0 p1 p0 h
          · have h := h.2 g10
            refine x_iload_n C dI_instance_70 rfl 4 rfl ?_
            refine x_goto (tgt := 75) C dI_instance_71 (by decide) ?_
            refine x_sub [5, 0] rfl ?_
            exact tI_instance_J75 C hA hlocks hr r p3 z9 p2 p1 p0 h
        · have h := h.2 g8
          refine x_iconst (v := (-1)) C dI_instance_47 (by decide) ?_
          exact x_iret C hA hlocks hr ⟨r, rfl, h⟩ dI_instance_48
    · have h := h.2 g4
      refine x_iconst (v := (-1)) C dI_instance_22 (by decide) ?_
      exact x_iret C hA hlocks hr ⟨r, rfl, h⟩ dI_instance_23
set_option maxRecDepth 100000 in
set_option maxHeartbeats 4000000 in
theorem kI_instance {p : Program} {l : Launch} {e : Env} {R : Room} {s : State} {m : MethodId} {args : Array Value} {below : List Frame} {meth : Method} {c : Code} {cells slots : Nat} {Q : State → Prop} {A : Nat → Prop} {D : va_G} {nL pc : Nat} {cc : ByteArray} {cw : Cond} {own : String} {lv : List (Nat × Value)} {st : List Value} {G : G_} {a : L_} {r : S_} {K : Int32 → S_ → Prop} {p0 : Int32} {p1 : Int32} {p2 : Int32} {p3 : Int32} (C : vx_C p s m args c cc nL (cw :: wAll) own D vwCl (tysG G) nwAll A) {i : Nat} (hl : Cond.methodLink own i yI_instance ∈ wAll) (hR : 3 + 1 ≤ R.frames ∧ 8 + (6 + 11) + 74 ≤ R.locals) (hst : (st.map fun v => v.category).sum ≤ 8) (hd : decode cc pc = .ok (.invokevirtual i, 3)) (hcs : cells ≤ R.cells ∧ slots ≤ R.slots) (h : qI_instance a K r p0 p1 p2 p3) (k : ∀ (v : Int32) (r1 : S_), K v r1 → vx_V p l e R s m args below meth c A D vwCl nL cells slots Q (wo G a r1) (pc + 3) lv (.int v :: st)) : vx_V p l e R s m args below meth c A D vwCl nL cells slots Q (wo G a r) pc lv (.int p3 :: .int p2 :: .int p1 :: .int p0 :: .ref (ob G 0) :: st) := by
  refine x_callVi C (CC := "ClassInference") (ci := 0) (q0 := 0) (fs := fl0 G a r) (As := [.int p0, .int p1, .int p2, .int p3]) rfl rfl (cI_instance p0 p1 p2 p3 h) (cwV (C := "ClassInference") 4 C.1.2.2.2.2 (goodV hl wm367 wm368 wm1 wm369) rfl rfl rfl (by decide +kernel) hR) rfl hst hd hcs (fun v w hw => ?_)
  obtain ⟨r1, rfl, h⟩ := hw
  exact k v r1 h
def qI_isName (a : L_) (r : S_) (K : Int32 → Prop) (p0 : Int32) : Prop :=
  ((p0 < 0) → zb 0 ∧ K 0) ∧ ((¬ p0 < 0) → ((16 ≤ p0) → zb 0 ∧ K 0) ∧ ((¬ 16 ≤ p0) → zb 1 ∧ K 1))
set_option maxRecDepth 100000 in
set_option maxHeartbeats 4000000 in
theorem cI_isName {a : L_} {r : S_} {K : Int32 → Prop} (p0 : Int32) (h : qI_isName a r K p0) : vx_Mi l yI_isName (Cond.code yI_isName prog_1_method_10_code 1 (some .boolean) :: wAll) { frames := 0, cells := 0, slots := 0, locals := 0 } D vwCl (tysG G) nwAll (wo G a r) [.int p0] 0 0 (fun v w => w = wo G a r ∧ zb v ∧ K v) := by
  unfold qI_isName at h
  refine x_meti (cc := prog_1_method_10_code) (maxL := 1) (ret := (some .boolean)) (lv0 := [(0, .int p0)]) (by decide) rfl (Nat.le_of_ble_eq_true rfl) rfl ?_
  intro p e s m args below meth c A C hA hlocks hr
  refine x_iload_n C dI_isName_0 rfl 0 rfl ?_
  refine x_if_lt (tgt := 14) C dI_isName_1 (by decide) (fun g1 => ?_) (fun g1 => ?_)
  · have h := h.1 g1
    refine x_iconst (v := 0) C dI_isName_14 (by decide) ?_
    obtain ⟨g2, h⟩ := h
    exact x_zret C hA hlocks hr (zb_n g2) ⟨rfl, g2, h⟩ dI_isName_15
  · have h := h.2 g1
    refine x_iload_n C dI_isName_4 rfl 0 rfl ?_
    refine x_bipush (v := 16) C dI_isName_5 (by decide) ?_
    refine x_icmp_ge (tgt := 14) C dI_isName_7 (by decide) (fun g3 => ?_) (fun g3 => ?_)
    · have h := h.1 g3
      refine x_iconst (v := 0) C dI_isName_14 (by decide) ?_
      obtain ⟨g4, h⟩ := h
      exact x_zret C hA hlocks hr (zb_n g4) ⟨rfl, g4, h⟩ dI_isName_15
    · have h := h.2 g3
      refine x_iconst (v := 1) C dI_isName_10 (by decide) ?_
      refine x_goto (tgt := 15) C dI_isName_11 (by decide) ?_
      obtain ⟨g5, h⟩ := h
      exact x_zret C hA hlocks hr (zb_n g5) ⟨rfl, g5, h⟩ dI_isName_15
set_option maxRecDepth 100000 in
set_option maxHeartbeats 4000000 in
theorem kI_isName {p : Program} {l : Launch} {e : Env} {R : Room} {s : State} {m : MethodId} {args : Array Value} {below : List Frame} {meth : Method} {c : Code} {cells slots : Nat} {Q : State → Prop} {A : Nat → Prop} {D : va_G} {nL pc : Nat} {cc : ByteArray} {cw : Cond} {own : String} {lv : List (Nat × Value)} {st : List Value} {G : G_} {a : L_} {r : S_} {K : Int32 → Prop} {p0 : Int32} (C : vx_C p s m args c cc nL (cw :: wAll) own D vwCl (tysG G) nwAll A) {i : Nat} (hl : Cond.methodLink own i yI_isName ∈ wAll) (hR : 0 + 1 ≤ R.frames ∧ 8 + (1 + 11) + 0 ≤ R.locals) (hst : (st.map fun v => v.category).sum ≤ 8) (hd : decode cc pc = .ok (.invokestatic i, 3)) (hcs : cells ≤ R.cells ∧ slots ≤ R.slots) (h : qI_isName a r K p0) (k : ∀ (v : Int32), zb v → K v → vx_V p l e R s m args below meth c A D vwCl nL cells slots Q (wo G a r) (pc + 3) lv (.int v :: st)) : vx_V p l e R s m args below meth c A D vwCl nL cells slots Q (wo G a r) pc lv (.int p0 :: st) := by
  refine x_callSi C (As := [.int p0]) (cI_isName p0 h) (va_cwS 1 C.1.2.2.2.2 (goodS hl wm398 wm1 wm399) rfl rfl rfl (by decide +kernel) hR) rfl hst hd hcs (fun v w hw => ?_)
  obtain ⟨rfl, h⟩ := hw
  exact k v h.1 h.2
def qE_has (a : L_) (r : S_) (K : Int32 → Prop) (p0 : Int32) : Prop :=
  ((p0 < 0) → zb 0 ∧ K 0) ∧ ((¬ p0 < 0) → (((fi r 4) ≤ p0) → zb 0 ∧ K 0) ∧ ((¬ (fi r 4) ≤ p0) → zb 1 ∧ K 1))
set_option maxRecDepth 100000 in
set_option maxHeartbeats 4000000 in
theorem cE_has {a : L_} {r : S_} {K : Int32 → Prop} (p0 : Int32) (h : qE_has a r K p0) : vx_Mi l yE_has (Cond.code yE_has prog_3_method_2_code 2 (some .boolean) :: wAll) { frames := 0, cells := 0, slots := 0, locals := 0 } D vwCl (tysG G) nwAll (wo G a r) [.ref (ob G 3), .int p0] 0 0 (fun v w => w = wo G a r ∧ zb v ∧ K v) := by
  unfold qE_has at h
  refine x_meti (cc := prog_3_method_2_code) (maxL := 2) (ret := (some .boolean)) (lv0 := [(0, .ref (ob G 3)), (1, .int p0)]) (by decide) rfl (Nat.le_of_ble_eq_true rfl) rfl ?_
  intro p e s m args below meth c A C hA hlocks hr
  refine x_iload_n C dE_has_0 rfl 1 rfl ?_
  refine x_if_lt (tgt := 16) C dE_has_1 (by decide) (fun g1 => ?_) (fun g1 => ?_)
  · have h := h.1 g1
    refine x_iconst (v := 0) C dE_has_16 (by decide) ?_
    obtain ⟨g2, h⟩ := h
    exact x_zret C hA hlocks hr (zb_n g2) ⟨rfl, g2, h⟩ dE_has_17
  · have h := h.2 g1
    refine x_iload_n C dE_has_4 rfl 1 rfl ?_
    refine x_aload_n C dE_has_5 rfl 0 rfl ?_
    refine gf_3_5 C (List.mem_cons_of_mem _ wm112) dE_has_6 ?_
    refine x_icmp_ge (tgt := 16) C dE_has_9 (by decide) (fun g3 => ?_) (fun g3 => ?_)
    · have h := h.1 g3
      refine x_iconst (v := 0) C dE_has_16 (by decide) ?_
      obtain ⟨g4, h⟩ := h
      exact x_zret C hA hlocks hr (zb_n g4) ⟨rfl, g4, h⟩ dE_has_17
    · have h := h.2 g3
      refine x_iconst (v := 1) C dE_has_12 (by decide) ?_
      refine x_goto (tgt := 17) C dE_has_13 (by decide) ?_
      obtain ⟨g5, h⟩ := h
      exact x_zret C hA hlocks hr (zb_n g5) ⟨rfl, g5, h⟩ dE_has_17
set_option maxRecDepth 100000 in
set_option maxHeartbeats 4000000 in
theorem kE_has {p : Program} {l : Launch} {e : Env} {R : Room} {s : State} {m : MethodId} {args : Array Value} {below : List Frame} {meth : Method} {c : Code} {cells slots : Nat} {Q : State → Prop} {A : Nat → Prop} {D : va_G} {nL pc : Nat} {cc : ByteArray} {cw : Cond} {own : String} {lv : List (Nat × Value)} {st : List Value} {G : G_} {a : L_} {r : S_} {K : Int32 → Prop} {p0 : Int32} (C : vx_C p s m args c cc nL (cw :: wAll) own D vwCl (tysG G) nwAll A) {i : Nat} (hl : Cond.methodLink own i yE_has ∈ wAll) (hR : 0 + 1 ≤ R.frames ∧ 8 + (2 + 11) + 0 ≤ R.locals) (hst : (st.map fun v => v.category).sum ≤ 8) (hd : decode cc pc = .ok (.invokevirtual i, 3)) (hcs : cells ≤ R.cells ∧ slots ≤ R.slots) (h : qE_has a r K p0) (k : ∀ (v : Int32), zb v → K v → vx_V p l e R s m args below meth c A D vwCl nL cells slots Q (wo G a r) (pc + 3) lv (.int v :: st)) : vx_V p l e R s m args below meth c A D vwCl nL cells slots Q (wo G a r) pc lv (.int p0 :: .ref (ob G 3) :: st) := by
  refine x_callVi C (CC := "ClassInference$ExpressionTable") (ci := 3) (q0 := 3) (fs := fl3 G a r) (As := [.int p0]) rfl rfl (cE_has p0 h) (cwV (C := "ClassInference$ExpressionTable") 1 C.1.2.2.2.2 (goodV hl wm401 wm402 wm5 wm403) rfl rfl rfl (by decide +kernel) hR) rfl hst hd hcs (fun v w hw => ?_)
  obtain ⟨rfl, h⟩ := hw
  exact k v h.1 h.2
def qI_mayStand (a : L_) (r : S_) (K : Int32 → Prop) (p0 : Int32) (p1 : Int32) (p2 : Int32) (p3 : Int32) : Prop :=
  ((p0) = 0 → qI_isName a r (fun z1 => zb z1 → zb z1 ∧ K z1) p1) ∧ ((p0) = 1 → qI_isName a r (fun z3 => zb z3 → ((z3 = 0) → zb 0 ∧ K 0) ∧ ((¬ z3 = 0) → qE_has a r (fun z6 => zb z6 → ((z6 = 0) → zb 0 ∧ K 0) ∧ ((¬ z6 = 0) → zb 1 ∧ K 1)) p2)) p1) ∧ ((p0) = 2 → qE_has a r (fun z10 => zb z10 → ((z10 = 0) → zb 0 ∧ K 0) ∧ ((¬ z10 = 0) → qE_has a r (fun z13 => zb z13 → ((z13 = 0) → zb 0 ∧ K 0) ∧ ((¬ z13 = 0) → zb 1 ∧ K 1)) p2)) p1) ∧ ((p0) = 3 → qI_isName a r (fun z17 => zb z17 → ((z17 = 0) → zb 0 ∧ K 0) ∧ ((¬ z17 = 0) → qE_has a r (fun z20 => zb z20 → ((z20 = 0) → zb 0 ∧ K 0) ∧ ((¬ z20 = 0) → qE_has a r (fun z23 => zb z23 → ((z23 = 0) → zb 0 ∧ K 0) ∧ ((¬ z23 = 0) → zb 1 ∧ K 1)) p3)) p2)) p1) ∧ ((p0) = 4 → qK_hasClass a r (fun z27 => zb z27 → ((z27 = 0) → zb 0 ∧ K 0) ∧ ((¬ z27 = 0) → qK_methodOf a r (fun z30 => ((z30 = (-1)) → zb 0 ∧ K 0) ∧ ((¬ z30 = (-1)) → zb 1 ∧ K 1)) p1)) p1) ∧ ((p0) = 5 → qT_hasType a r (fun z34 => zb z34 → zb z34 ∧ K z34) p1) ∧ (((p0).toInt < 0 ∨ 5 < (p0).toInt) → zb 0 ∧ K 0)
set_option maxRecDepth 100000 in
set_option maxHeartbeats 4000000 in
theorem cI_mayStand {a : L_} {r : S_} {K : Int32 → Prop} (p0 : Int32) (p1 : Int32) (p2 : Int32) (p3 : Int32) (h : qI_mayStand a r K p0 p1 p2 p3) : vx_Mi l yI_mayStand (Cond.code yI_mayStand prog_1_method_9_code 5 (some .boolean) :: wAll) { frames := 1, cells := 0, slots := 0, locals := 21 } D vwCl (tysG G) nwAll (wo G a r) [.ref (ob G 0), .int p0, .int p1, .int p2, .int p3] 0 0 (fun v w => w = wo G a r ∧ zb v ∧ K v) := by
  unfold qI_mayStand at h
  refine x_meti (cc := prog_1_method_9_code) (maxL := 5) (ret := (some .boolean)) (lv0 := [(0, .ref (ob G 0)), (1, .int p0), (2, .int p1), (3, .int p2), (4, .int p3)]) (by decide) rfl (Nat.le_of_ble_eq_true rfl) rfl ?_
  intro p e s m args below meth c A C hA hlocks hr
  refine x_iload_n C dI_mayStand_0 rfl 1 rfl ?_
  by_cases hn0 : (p0) = 0
  · have h := h.1 hn0
    refine x_tableIn (off := 39) (tgt := 40) C dI_mayStand_1 (by rw [hn0]; decide) (by rw [hn0]; decide) (by rw [hn0]; decide) (by decide) ?_
    refine x_iload_n C dI_mayStand_40 rfl 2 rfl ?_
    refine kI_isName C wm397 ⟨Nat.le_of_ble_eq_true rfl, Nat.le_of_ble_eq_true rfl⟩ (Nat.le_of_ble_eq_true rfl) dI_mayStand_41 ⟨Nat.zero_le _, Nat.zero_le _⟩ h (fun z1 hzz1 h => ?_)
    have h := h hzz1
    obtain ⟨g2, h⟩ := h
    exact x_zret C hA hlocks hr (zb_n g2) ⟨rfl, g2, h⟩ dI_mayStand_44
  · by_cases hn1 : (p0) = 1
    · have h := h.2.1 hn1
      refine x_tableIn (off := 44) (tgt := 45) C dI_mayStand_1 (by rw [hn1]; decide) (by rw [hn1]; decide) (by rw [hn1]; decide) (by decide) ?_
      refine x_iload_n C dI_mayStand_45 rfl 2 rfl ?_
      refine kI_isName C wm397 ⟨Nat.le_of_ble_eq_true rfl, Nat.le_of_ble_eq_true rfl⟩ (Nat.le_of_ble_eq_true rfl) dI_mayStand_46 ⟨Nat.zero_le _, Nat.zero_le _⟩ h (fun z3 hzz3 h => ?_)
      have h := h hzz3
      refine x_if_eq (tgt := 67) C dI_mayStand_49 (by decide) (fun g4 => ?_) (fun g4 => ?_)
      · have h := h.1 g4
        refine x_iconst (v := 0) C dI_mayStand_67 (by decide) ?_
        obtain ⟨g5, h⟩ := h
        exact x_zret C hA hlocks hr (zb_n g5) ⟨rfl, g5, h⟩ dI_mayStand_68
      · have h := h.2 g4
        refine x_aload_n C dI_mayStand_52 rfl 0 rfl ?_
        refine gf_0_2 C (List.mem_cons_of_mem _ wm280) dI_mayStand_53 ?_
        refine x_iload_n C dI_mayStand_56 rfl 3 rfl ?_
        refine kE_has C wm400 ⟨Nat.le_of_ble_eq_true rfl, Nat.le_of_ble_eq_true rfl⟩ (Nat.le_of_ble_eq_true rfl) dI_mayStand_57 ⟨Nat.zero_le _, Nat.zero_le _⟩ h (fun z6 hzz6 h => ?_)
        have h := h hzz6
        refine x_if_eq (tgt := 67) C dI_mayStand_60 (by decide) (fun g7 => ?_) (fun g7 => ?_)
        · have h := h.1 g7
          refine x_iconst (v := 0) C dI_mayStand_67 (by decide) ?_
          obtain ⟨g8, h⟩ := h
          exact x_zret C hA hlocks hr (zb_n g8) ⟨rfl, g8, h⟩ dI_mayStand_68
        · have h := h.2 g7
          refine x_iconst (v := 1) C dI_mayStand_63 (by decide) ?_
          refine x_goto (tgt := 68) C dI_mayStand_64 (by decide) ?_
          obtain ⟨g9, h⟩ := h
          exact x_zret C hA hlocks hr (zb_n g9) ⟨rfl, g9, h⟩ dI_mayStand_68
    · by_cases hn2 : (p0) = 2
      · have h := h.2.2.1 hn2
        refine x_tableIn (off := 68) (tgt := 69) C dI_mayStand_1 (by rw [hn2]; decide) (by rw [hn2]; decide) (by rw [hn2]; decide) (by decide) ?_
        refine x_aload_n C dI_mayStand_69 rfl 0 rfl ?_
        refine gf_0_2 C (List.mem_cons_of_mem _ wm280) dI_mayStand_70 ?_
        refine x_iload_n C dI_mayStand_73 rfl 2 rfl ?_
        refine kE_has C wm400 ⟨Nat.le_of_ble_eq_true rfl, Nat.le_of_ble_eq_true rfl⟩ (Nat.le_of_ble_eq_true rfl) dI_mayStand_74 ⟨Nat.zero_le _, Nat.zero_le _⟩ h (fun z10 hzz10 h => ?_)
        have h := h hzz10
        refine x_if_eq (tgt := 95) C dI_mayStand_77 (by decide) (fun g11 => ?_) (fun g11 => ?_)
        · have h := h.1 g11
          refine x_iconst (v := 0) C dI_mayStand_95 (by decide) ?_
          obtain ⟨g12, h⟩ := h
          exact x_zret C hA hlocks hr (zb_n g12) ⟨rfl, g12, h⟩ dI_mayStand_96
        · have h := h.2 g11
          refine x_aload_n C dI_mayStand_80 rfl 0 rfl ?_
          refine gf_0_2 C (List.mem_cons_of_mem _ wm280) dI_mayStand_81 ?_
          refine x_iload_n C dI_mayStand_84 rfl 3 rfl ?_
          refine kE_has C wm400 ⟨Nat.le_of_ble_eq_true rfl, Nat.le_of_ble_eq_true rfl⟩ (Nat.le_of_ble_eq_true rfl) dI_mayStand_85 ⟨Nat.zero_le _, Nat.zero_le _⟩ h (fun z13 hzz13 h => ?_)
          have h := h hzz13
          refine x_if_eq (tgt := 95) C dI_mayStand_88 (by decide) (fun g14 => ?_) (fun g14 => ?_)
          · have h := h.1 g14
            refine x_iconst (v := 0) C dI_mayStand_95 (by decide) ?_
            obtain ⟨g15, h⟩ := h
            exact x_zret C hA hlocks hr (zb_n g15) ⟨rfl, g15, h⟩ dI_mayStand_96
          · have h := h.2 g14
            refine x_iconst (v := 1) C dI_mayStand_91 (by decide) ?_
            refine x_goto (tgt := 96) C dI_mayStand_92 (by decide) ?_
            obtain ⟨g16, h⟩ := h
            exact x_zret C hA hlocks hr (zb_n g16) ⟨rfl, g16, h⟩ dI_mayStand_96
      · by_cases hn3 : (p0) = 3
        · have h := h.2.2.2.1 hn3
          refine x_tableIn (off := 96) (tgt := 97) C dI_mayStand_1 (by rw [hn3]; decide) (by rw [hn3]; decide) (by rw [hn3]; decide) (by decide) ?_
          refine x_iload_n C dI_mayStand_97 rfl 2 rfl ?_
          refine kI_isName C wm397 ⟨Nat.le_of_ble_eq_true rfl, Nat.le_of_ble_eq_true rfl⟩ (Nat.le_of_ble_eq_true rfl) dI_mayStand_98 ⟨Nat.zero_le _, Nat.zero_le _⟩ h (fun z17 hzz17 h => ?_)
          have h := h hzz17
          refine x_if_eq (tgt := 131) C dI_mayStand_101 (by decide) (fun g18 => ?_) (fun g18 => ?_)
          · have h := h.1 g18
            refine x_iconst (v := 0) C dI_mayStand_131 (by decide) ?_
            obtain ⟨g19, h⟩ := h
            exact x_zret C hA hlocks hr (zb_n g19) ⟨rfl, g19, h⟩ dI_mayStand_132
          · have h := h.2 g18
            refine x_aload_n C dI_mayStand_104 rfl 0 rfl ?_
            refine gf_0_2 C (List.mem_cons_of_mem _ wm280) dI_mayStand_105 ?_
            refine x_iload_n C dI_mayStand_108 rfl 3 rfl ?_
            refine kE_has C wm400 ⟨Nat.le_of_ble_eq_true rfl, Nat.le_of_ble_eq_true rfl⟩ (Nat.le_of_ble_eq_true rfl) dI_mayStand_109 ⟨Nat.zero_le _, Nat.zero_le _⟩ h (fun z20 hzz20 h => ?_)
            have h := h hzz20
            refine x_if_eq (tgt := 131) C dI_mayStand_112 (by decide) (fun g21 => ?_) (fun g21 => ?_)
            · have h := h.1 g21
              refine x_iconst (v := 0) C dI_mayStand_131 (by decide) ?_
              obtain ⟨g22, h⟩ := h
              exact x_zret C hA hlocks hr (zb_n g22) ⟨rfl, g22, h⟩ dI_mayStand_132
            · have h := h.2 g21
              refine x_aload_n C dI_mayStand_115 rfl 0 rfl ?_
              refine gf_0_2 C (List.mem_cons_of_mem _ wm280) dI_mayStand_116 ?_
              refine x_iload C dI_mayStand_119 4 rfl ?_
              refine kE_has C wm400 ⟨Nat.le_of_ble_eq_true rfl, Nat.le_of_ble_eq_true rfl⟩ (Nat.le_of_ble_eq_true rfl) dI_mayStand_121 ⟨Nat.zero_le _, Nat.zero_le _⟩ h (fun z23 hzz23 h => ?_)
              have h := h hzz23
              refine x_if_eq (tgt := 131) C dI_mayStand_124 (by decide) (fun g24 => ?_) (fun g24 => ?_)
              · have h := h.1 g24
                refine x_iconst (v := 0) C dI_mayStand_131 (by decide) ?_
                obtain ⟨g25, h⟩ := h
                exact x_zret C hA hlocks hr (zb_n g25) ⟨rfl, g25, h⟩ dI_mayStand_132
              · have h := h.2 g24
                refine x_iconst (v := 1) C dI_mayStand_127 (by decide) ?_
                refine x_goto (tgt := 132) C dI_mayStand_128 (by decide) ?_
                obtain ⟨g26, h⟩ := h
                exact x_zret C hA hlocks hr (zb_n g26) ⟨rfl, g26, h⟩ dI_mayStand_132
        · by_cases hn4 : (p0) = 4
          · have h := h.2.2.2.2.1 hn4
            refine x_tableIn (off := 132) (tgt := 133) C dI_mayStand_1 (by rw [hn4]; decide) (by rw [hn4]; decide) (by rw [hn4]; decide) (by decide) ?_
            refine x_aload_n C dI_mayStand_133 rfl 0 rfl ?_
            refine gf_0_1 C (List.mem_cons_of_mem _ wm279) dI_mayStand_134 ?_
            refine x_iload_n C dI_mayStand_137 rfl 2 rfl ?_
            refine kK_hasClass C wm342 ⟨Nat.le_of_ble_eq_true rfl, Nat.le_of_ble_eq_true rfl⟩ (Nat.le_of_ble_eq_true rfl) dI_mayStand_138 ⟨Nat.zero_le _, Nat.zero_le _⟩ h (fun z27 hzz27 h => ?_)
            have h := h hzz27
            refine x_if_eq (tgt := 160) C dI_mayStand_141 (by decide) (fun g28 => ?_) (fun g28 => ?_)
            · have h := h.1 g28
              refine x_iconst (v := 0) C dI_mayStand_160 (by decide) ?_
              obtain ⟨g29, h⟩ := h
              exact x_zret C hA hlocks hr (zb_n g29) ⟨rfl, g29, h⟩ dI_mayStand_161
            · have h := h.2 g28
              refine x_aload_n C dI_mayStand_144 rfl 0 rfl ?_
              refine gf_0_1 C (List.mem_cons_of_mem _ wm279) dI_mayStand_145 ?_
              refine x_iload_n C dI_mayStand_148 rfl 2 rfl ?_
              refine kK_methodOf C wm354 ⟨Nat.le_of_ble_eq_true rfl, Nat.le_of_ble_eq_true rfl⟩ (Nat.le_of_ble_eq_true rfl) dI_mayStand_149 ⟨Nat.zero_le _, Nat.zero_le _⟩ h (fun z30 h => ?_)
              refine x_iconst (v := (-1)) C dI_mayStand_152 (by decide) ?_
              refine x_icmp_eq (tgt := 160) C dI_mayStand_153 (by decide) (fun g31 => ?_) (fun g31 => ?_)
              · have h := h.1 g31
                refine x_iconst (v := 0) C dI_mayStand_160 (by decide) ?_
                obtain ⟨g32, h⟩ := h
                exact x_zret C hA hlocks hr (zb_n g32) ⟨rfl, g32, h⟩ dI_mayStand_161
              · have h := h.2 g31
                refine x_iconst (v := 1) C dI_mayStand_156 (by decide) ?_
                refine x_goto (tgt := 161) C dI_mayStand_157 (by decide) ?_
                obtain ⟨g33, h⟩ := h
                exact x_zret C hA hlocks hr (zb_n g33) ⟨rfl, g33, h⟩ dI_mayStand_161
          · by_cases hn5 : (p0) = 5
            · have h := h.2.2.2.2.2.1 hn5
              refine x_tableIn (off := 161) (tgt := 162) C dI_mayStand_1 (by rw [hn5]; decide) (by rw [hn5]; decide) (by rw [hn5]; decide) (by decide) ?_
              refine x_aload_n C dI_mayStand_162 rfl 0 rfl ?_
              refine gf_0_0 C (List.mem_cons_of_mem _ wm278) dI_mayStand_163 ?_
              refine x_iload_n C dI_mayStand_166 rfl 2 rfl ?_
              refine kT_hasType C wm330 ⟨Nat.le_of_ble_eq_true rfl, Nat.le_of_ble_eq_true rfl⟩ (Nat.le_of_ble_eq_true rfl) dI_mayStand_167 ⟨Nat.zero_le _, Nat.zero_le _⟩ h (fun z34 hzz34 h => ?_)
              have h := h hzz34
              obtain ⟨g35, h⟩ := h
              exact x_zret C hA hlocks hr (zb_n g35) ⟨rfl, g35, h⟩ dI_mayStand_170
            · have ho : (p0).toInt < 0 ∨ 5 < (p0).toInt := by
                have hq : ∀ k : Int32, ¬ (p0) = k → ¬ (p0).toInt = k.toInt := fun k h9 h8 => h9 (Int32.toInt_inj.mp h8)
                have hm0 := hq 0 hn0
                have hm1 := hq 1 hn1
                have hm2 := hq 2 hn2
                have hm3 := hq 3 hn3
                have hm4 := hq 4 hn4
                have hm5 := hq 5 hn5
                simp only [show (0 : Int32).toInt = 0 from by decide, show (1 : Int32).toInt = 1 from by decide, show (2 : Int32).toInt = 2 from by decide, show (3 : Int32).toInt = 3 from by decide, show (4 : Int32).toInt = 4 from by decide, show (5 : Int32).toInt = 5 from by decide] at hm0 hm1 hm2 hm3 hm4 hm5
                omega
              have h := h.2.2.2.2.2.2 ho
              refine x_tableOut (tgt := 171) C dI_mayStand_1 ho (by decide) ?_
              refine x_iconst (v := 0) C dI_mayStand_171 (by decide) ?_
              obtain ⟨g36, h⟩ := h
              exact x_zret C hA hlocks hr (zb_n g36) ⟨rfl, g36, h⟩ dI_mayStand_172
set_option maxRecDepth 100000 in
set_option maxHeartbeats 4000000 in
theorem kI_mayStand {p : Program} {l : Launch} {e : Env} {R : Room} {s : State} {m : MethodId} {args : Array Value} {below : List Frame} {meth : Method} {c : Code} {cells slots : Nat} {Q : State → Prop} {A : Nat → Prop} {D : va_G} {nL pc : Nat} {cc : ByteArray} {cw : Cond} {own : String} {lv : List (Nat × Value)} {st : List Value} {G : G_} {a : L_} {r : S_} {K : Int32 → Prop} {p0 : Int32} {p1 : Int32} {p2 : Int32} {p3 : Int32} (C : vx_C p s m args c cc nL (cw :: wAll) own D vwCl (tysG G) nwAll A) {i : Nat} (hl : Cond.methodLink own i yI_mayStand ∈ wAll) (hR : 1 + 1 ≤ R.frames ∧ 8 + (5 + 11) + 21 ≤ R.locals) (hst : (st.map fun v => v.category).sum ≤ 8) (hd : decode cc pc = .ok (.invokevirtual i, 3)) (hcs : cells ≤ R.cells ∧ slots ≤ R.slots) (h : qI_mayStand a r K p0 p1 p2 p3) (k : ∀ (v : Int32), zb v → K v → vx_V p l e R s m args below meth c A D vwCl nL cells slots Q (wo G a r) (pc + 3) lv (.int v :: st)) : vx_V p l e R s m args below meth c A D vwCl nL cells slots Q (wo G a r) pc lv (.int p3 :: .int p2 :: .int p1 :: .int p0 :: .ref (ob G 0) :: st) := by
  refine x_callVi C (CC := "ClassInference") (ci := 0) (q0 := 0) (fs := fl0 G a r) (As := [.int p0, .int p1, .int p2, .int p3]) rfl rfl (cI_mayStand p0 p1 p2 p3 h) (cwV (C := "ClassInference") 4 C.1.2.2.2.2 (goodV hl wm395 wp3 wm1 wm396) rfl rfl rfl (by decide +kernel) hR) rfl hst hd hcs (fun v w hw => ?_)
  obtain ⟨rfl, h⟩ := hw
  exact k v h.1 h.2
end MTH
