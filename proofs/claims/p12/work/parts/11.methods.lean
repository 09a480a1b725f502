section MTH
variable {p : Program} {l : Launch} {e : Env} {s : State} {m : MethodId} {args : Array Value} {below : List Frame} {meth : Method} {c : Code} {Q : State → Prop} {A : Nat → Prop} {D : va_G} {G : G_} {ws0 : va_W}
def qI_type_J84 (a : L_) (K : Int32 → S_ → Prop) (r : S_) (u0 : Int32) (u1 : Int32) (u2 : Int32) : Prop :=
  qT_addBuilt a (fun z8 r9 => K z8 r9) r u2 u1 u0
set_option maxRecDepth 100000 in
set_option maxHeartbeats 4000000 in
theorem tI_type_J84 (C : vx_C p s m args c prog_1_method_4_code 5 (Cond.code yI_type prog_1_method_4_code 5 (some .int) :: wAll) "ClassInference" D vwCl (tysG G) nwAll A) (hA : A = va_A ws0 s.heap.size) (hlocks : meth.locks = false) (hr : meth.sig.returnType = (some .int)) {a : L_} {K : Int32 → S_ → Prop} (r : S_) (u0 : Int32) (u1 : Int32) (u2 : Int32) (h : qI_type_J84 a K r u0 u1 u2) : vx_V p l e { frames := 2, cells := 0, slots := 0, locals := 51 } s m args below meth c A D vwCl 5 0 0 (MQ below (va_Qi (fun v w => ∃ r1, w = wo G a r1 ∧ K v r1) (vx_B D vwCl (tysG G) A) A) args s 0 0 A) (wo G a r) 84 [] [.int u0, .int u1, .int u2, .ref (ob G 1)] := by
  unfold qI_type_J84 at h
  refine kT_addBuilt C wm334 ⟨Nat.le_of_ble_eq_true rfl, Nat.le_of_ble_eq_true rfl⟩ (Nat.le_of_ble_eq_true rfl) dI_type_84 ⟨Nat.zero_le _, Nat.zero_le _⟩ h (fun z8 r9 h => ?_)
  exact x_iret C hA hlocks hr ⟨r9, rfl, h⟩ dI_type_87
def qI_type_J73 (a : L_) (K : Int32 → S_ → Prop) (r : S_) (v3 : Int32) (v4 : Int32) (u0 : Int32) (u1 : Int32) : Prop :=
  ((v4 ≤ 1) → qI_type_J84 a K r (-1) u0 u1) ∧ ((¬ v4 ≤ 1) → qI_type_J84 a K r v3 u0 u1)
set_option maxRecDepth 100000 in
set_option maxHeartbeats 4000000 in
theorem tI_type_J73 (C : vx_C p s m args c prog_1_method_4_code 5 (Cond.code yI_type prog_1_method_4_code 5 (some .int) :: wAll) "ClassInference" D vwCl (tysG G) nwAll A) (hA : A = va_A ws0 s.heap.size) (hlocks : meth.locks = false) (hr : meth.sig.returnType = (some .int)) {a : L_} {K : Int32 → S_ → Prop} (r : S_) (v3 : Int32) (v4 : Int32) (u0 : Int32) (u1 : Int32) (h : qI_type_J73 a K r v3 v4 u0 u1) : vx_V p l e { frames := 2, cells := 0, slots := 0, locals := 51 } s m args below meth c A D vwCl 5 0 0 (MQ below (va_Qi (fun v w => ∃ r1, w = wo G a r1 ∧ K v r1) (vx_B D vwCl (tysG G) A) A) args s 0 0 A) (wo G a r) 73 [(3, .int v3), (4, .int v4)] [.int u0, .int u1, .ref (ob G 1)] := by
  unfold qI_type_J73 at h
  refine x_iload C dI_type_73 1 rfl ?_
  refine x_iconst (v := 1) C dI_type_75 (by decide) ?_
  refine x_icmp_le (tgt := 83) C dI_type_76 (by decide) (fun g7 => ?_) (fun g7 => ?_)
  · have h := h.1 g7
    refine x_iconst (v := (-1)) C dI_type_83 (by decide) ?_
    refine x_sub [] rfl ?_
    exact tI_type_J84 C hA hlocks hr r (-1) u0 u1 h
  · have h := h.2 g7
    refine x_iload_n C dI_type_79 rfl 0 rfl ?_
    refine x_goto (tgt := 84) C dI_type_80 (by decide) ?_
    refine x_sub [] rfl ?_
    exact tI_type_J84 C hA hlocks hr r v3 u0 u1 h
def qI_type_J58 (a : L_) (K : Int32 → S_ → Prop) (r : S_) (v1 : Int32) (v2 : Int32) (v3 : Int32) (v4 : Int32) : Prop :=
  ((v4 ≤ 0) → qI_type_J73 a K r v3 v4 (-1) v1) ∧ ((¬ v4 ≤ 0) → qI_type_J73 a K r v3 v4 v2 v1)
set_option maxRecDepth 100000 in
set_option maxHeartbeats 4000000 in
theorem tI_type_J58 (C : vx_C p s m args c prog_1_method_4_code 5 (Cond.code yI_type prog_1_method_4_code 5 (some .int) :: wAll) "ClassInference" D vwCl (tysG G) nwAll A) (hA : A = va_A ws0 s.heap.size) (hlocks : meth.locks = false) (hr : meth.sig.returnType = (some .int)) {a : L_} {K : Int32 → S_ → Prop} (r : S_) (v1 : Int32) (v2 : Int32) (v3 : Int32) (v4 : Int32) (h : qI_type_J58 a K r v1 v2 v3 v4) : vx_V p l e { frames := 2, cells := 0, slots := 0, locals := 51 } s m args below meth c A D vwCl 5 0 0 (MQ below (va_Qi (fun v w => ∃ r1, w = wo G a r1 ∧ K v r1) (vx_B D vwCl (tysG G) A) A) args s 0 0 A) (wo G a r) 58 [(0, .ref (ob G 0)), (1, .int v1), (2, .int v2), (3, .int v3), (4, .int v4)] [] := by
  unfold qI_type_J58 at h
  refine x_aload_n C dI_type_58 rfl 0 rfl ?_
  refine gf_0_0 C (List.mem_cons_of_mem _ wm278) dI_type_59 ?_
  refine x_iload_n C dI_type_62 rfl 1 rfl ?_
  refine x_iload C dI_type_63 4 rfl ?_
  refine x_if_le (tgt := 72) C dI_type_65 (by decide) (fun g6 => ?_) (fun g6 => ?_)
  · have h := h.1 g6
    refine x_iconst (v := (-1)) C dI_type_72 (by decide) ?_
    refine x_sub [3, 4] rfl ?_
    exact tI_type_J73 C hA hlocks hr r v3 v4 (-1) v1 h
  · have h := h.2 g6
    refine x_iload_n C dI_type_68 rfl 2 rfl ?_
    refine x_goto (tgt := 73) C dI_type_69 (by decide) ?_
    refine x_sub [3, 4] rfl ?_
    exact tI_type_J73 C hA hlocks hr r v3 v4 v2 v1 h
def qI_type_J39 (a : L_) (K : Int32 → S_ → Prop) (r : S_) (v1 : Int32) (v2 : Int32) (v3 : Int32) (v4 : Int32) : Prop :=
  ((v4 ≤ 1) → qI_type_J58 a K r v1 v2 v3 v4) ∧ ((¬ v4 ≤ 1) → qT_hasType a r (fun z10 => zb z10 → ((¬ z10 = 0) → qI_type_J58 a K r v1 v2 v3 v4) ∧ ((z10 = 0) → K (-1) r)) v3)
set_option maxRecDepth 100000 in
set_option maxHeartbeats 4000000 in
theorem tI_type_J39 (C : vx_C p s m args c prog_1_method_4_code 5 (Cond.code yI_type prog_1_method_4_code 5 (some .int) :: wAll) "ClassInference" D vwCl (tysG G) nwAll A) (hA : A = va_A ws0 s.heap.size) (hlocks : meth.locks = false) (hr : meth.sig.returnType = (some .int)) {a : L_} {K : Int32 → S_ → Prop} (r : S_) (v1 : Int32) (v2 : Int32) (v3 : Int32) (v4 : Int32) (h : qI_type_J39 a K r v1 v2 v3 v4) : vx_V p l e { frames := 2, cells := 0, slots := 0, locals := 51 } s m args below meth c A D vwCl 5 0 0 (MQ below (va_Qi (fun v w => ∃ r1, w = wo G a r1 ∧ K v r1) (vx_B D vwCl (tysG G) A) A) args s 0 0 A) (wo G a r) 39 [(0, .ref (ob G 0)), (1, .int v1), (2, .int v2), (3, .int v3), (4, .int v4)] [] := by
  unfold qI_type_J39 at h
  refine x_iload C dI_type_39 4 rfl ?_
  refine x_iconst (v := 1) C dI_type_41 (by decide) ?_
  refine x_icmp_le (tgt := 58) C dI_type_42 (by decide) (fun g5 => ?_) (fun g5 => ?_)
  · have h := h.1 g5
    refine x_sub [0, 1, 2, 3, 4] rfl ?_
    exact tI_type_J58 C hA hlocks hr r v1 v2 v3 v4 h
  · have h := h.2 g5
    refine x_aload_n C dI_type_45 rfl 0 rfl ?_
    refine gf_0_0 C (List.mem_cons_of_mem _ wm278) dI_type_46 ?_
    refine x_iload_n C dI_type_49 rfl 3 rfl ?_
    refine kT_hasType C wm330 ⟨Nat.le_of_ble_eq_true rfl, Nat.le_of_ble_eq_true rfl⟩ (Nat.le_of_ble_eq_true rfl) dI_type_50 ⟨Nat.zero_le _, Nat.zero_le _⟩ h (fun z10 hzz10 h => ?_)
    have h := h hzz10
    refine x_if_ne (tgt := 58) C dI_type_53 (by decide) (fun g11 => ?_) (fun g11 => ?_)
    · have h := h.1 g11
      refine x_sub [0, 1, 2, 3, 4] rfl ?_
      exact tI_type_J58 C hA hlocks hr r v1 v2 v3 v4 h
    · have h := h.2 g11
      refine x_iconst (v := (-1)) C dI_type_56 (by decide) ?_
      exact x_iret C hA hlocks hr ⟨r, rfl, h⟩ dI_type_57
def qI_type (a : L_) (K : Int32 → S_ → Prop) (r : S_) (p0 : Int32) (p1 : Int32) (p2 : Int32) : Prop :=
  qT_hasConstructor a r (fun z1 => zb z1 → ((¬ z1 = 0) → qT_partsOf a r (fun z3 => ((z3 ≤ 0) → qI_type_J39 a K r p0 p1 p2 z3) ∧ ((¬ z3 ≤ 0) → qT_hasType a r (fun z12 => zb z12 → ((z12 = 0) → K (-1) r) ∧ ((¬ z12 = 0) → qI_type_J39 a K r p0 p1 p2 z3)) p1)) p0) ∧ ((z1 = 0) → K (-1) r)) p0
set_option maxRecDepth 100000 in
set_option maxHeartbeats 4000000 in
theorem cI_type {a : L_} {r : S_} {K : Int32 → S_ → Prop} (p0 : Int32) (p1 : Int32) (p2 : Int32) (h : qI_type a K r p0 p1 p2) : vx_Mi l yI_type (Cond.code yI_type prog_1_method_4_code 5 (some .int) :: wAll) { frames := 2, cells := 0, slots := 0, locals := 51 } D vwCl (tysG G) nwAll (wo G a r) [.ref (ob G 0), .int p0, .int p1, .int p2] 0 0 (fun v w => ∃ r1, w = wo G a r1 ∧ K v r1) := by
  unfold qI_type at h
  refine x_meti (cc := prog_1_method_4_code) (maxL := 5) (ret := (some .int)) (lv0 := [(0, .ref (ob G 0)), (1, .int p0), (2, .int p1), (3, .int p2)]) (by decide) rfl (Nat.le_of_ble_eq_true rfl) rfl ?_
  intro p e s m args below meth c A C hA hlocks hr
  refine x_aload_n C dI_type_0 rfl 0 rfl ?_
  refine gf_0_0 C (List.mem_cons_of_mem _ wm278) dI_type_1 ?_
  refine x_iload_n C dI_type_4 rfl 1 rfl ?_
  refine kT_hasConstructor C wm322 ⟨Nat.le_of_ble_eq_true rfl, Nat.le_of_ble_eq_true rfl⟩ (Nat.le_of_ble_eq_true rfl) dI_type_5 ⟨Nat.zero_le _, Nat.zero_le _⟩ h (fun z1 hzz1 h => ?_)
  have h := h hzz1
  refine x_if_ne (tgt := 13) C dI_type_8 (by decide) (fun g2 => ?_) (fun g2 => ?_)
  · have h := h.1 g2
    refine x_aload_n C dI_type_13 rfl 0 rfl ?_
    refine gf_0_0 C (List.mem_cons_of_mem _ wm278) dI_type_14 ?_
    refine x_iload_n C dI_type_17 rfl 1 rfl ?_
    refine kT_partsOf C wm326 ⟨Nat.le_of_ble_eq_true rfl, Nat.le_of_ble_eq_true rfl⟩ (Nat.le_of_ble_eq_true rfl) dI_type_18 ⟨Nat.zero_le _, Nat.zero_le _⟩ h (fun z3 h => ?_)
    refine x_istore C [(4, .int z3), (0, .ref (ob G 0)), (1, .int p0), (2, .int p1), (3, .int p2)] dI_type_21 (by decide) rfl ?_
    refine x_iload C dI_type_23 0 rfl ?_
    refine x_if_le (tgt := 39) C dI_type_25 (by decide) (fun g4 => ?_) (fun g4 => ?_)
    · have h := h.1 g4
      refine x_sub [1, 2, 3, 4, 0] rfl ?_
      exact tI_type_J39 C hA hlocks hr r p0 p1 p2 z3 h
    · have h := h.2 g4
      refine x_aload_n C dI_type_28 rfl 1 rfl ?_
      refine gf_0_0 C (List.mem_cons_of_mem _ wm278) dI_type_29 ?_
      refine x_iload_n C dI_type_32 rfl 3 rfl ?_
      refine kT_hasType C wm330 ⟨Nat.le_of_ble_eq_true rfl, Nat.le_of_ble_eq_true rfl⟩ (Nat.le_of_ble_eq_true rfl) dI_type_33 ⟨Nat.zero_le _, Nat.zero_le _⟩ h (fun z12 hzz12 h => ?_)
      have h := h hzz12
      refine x_if_eq (tgt := 56) C dI_type_36 (by decide) (fun g13 => ?_) (fun g13 => ?_)
      · have h := h.1 g13
        refine x_iconst (v := (-1)) C dI_type_56 (by decide) ?_
        exact x_iret C hA hlocks hr ⟨r, rfl, h⟩ dI_type_57
      · have h := h.2 g13
        refine x_sub [1, 2, 3, 4, 0] rfl ?_
        exact tI_type_J39 C hA hlocks hr r p0 p1 p2 z3 h
  · have h := h.2 g2
    refine x_iconst (v := (-1)) C dI_type_11 (by decide) ?_
    exact x_iret C hA hlocks hr ⟨r, rfl, h⟩ dI_type_12
set_option maxRecDepth 100000 in
set_option maxHeartbeats 4000000 in
theorem kI_type {p : Program} {l : Launch} {e : Env} {R : Room} {s : State} {m : MethodId} {args : Array Value} {below : List Frame} {meth : Method} {c : Code} {cells slots : Nat} {Q : State → Prop} {A : Nat → Prop} {D : va_G} {nL pc : Nat} {cc : ByteArray} {cw : Cond} {own : String} {lv : List (Nat × Value)} {st : List Value} {G : G_} {a : L_} {r : S_} {K : Int32 → S_ → Prop} {p0 : Int32} {p1 : Int32} {p2 : Int32} (C : vx_C p s m args c cc nL (cw :: wAll) own D vwCl (tysG G) nwAll A) {i : Nat} (hl : Cond.methodLink own i yI_type ∈ wAll) (hR : 2 + 1 ≤ R.frames ∧ 8 + (5 + 11) + 51 ≤ R.locals) (hst : (st.map fun v => v.category).sum ≤ 8) (hd : decode cc pc = .ok (.invokevirtual i, 3)) (hcs : cells ≤ R.cells ∧ slots ≤ R.slots) (h : qI_type a K r p0 p1 p2) (k : ∀ (v : Int32) (r1 : S_), K v r1 → vx_V p l e R s m args below meth c A D vwCl nL cells slots Q (wo G a r1) (pc + 3) lv (.int v :: st)) : vx_V p l e R s m args below meth c A D vwCl nL cells slots Q (wo G a r) pc lv (.int p2 :: .int p1 :: .int p0 :: .ref (ob G 0) :: st) := by
  refine x_callVi C (CC := "ClassInference") (ci := 0) (q0 := 0) (fs := fl0 G a r) (As := [.int p0, .int p1, .int p2]) rfl rfl (cI_type p0 p1 p2 h) (cwV (C := "ClassInference") 3 C.1.2.2.2.2 (goodV hl wm319 wm320 wm1 wm321) rfl rfl rfl (by decide +kernel) hR) rfl hst hd hcs (fun v w hw => ?_)
  obtain ⟨r1, rfl, h⟩ := hw
  exact k v r1 h
def qK_hasClass (a : L_) (r : S_) (K : Int32 → Prop) (p0 : Int32) : Prop :=
  ((p0 < 0) → zb 0 ∧ K 0) ∧ ((¬ p0 < 0) → (((fi r 2) ≤ p0) → zb 0 ∧ K 0) ∧ ((¬ (fi r 2) ≤ p0) → zb 1 ∧ K 1))
set_option maxRecDepth 100000 in
set_option maxHeartbeats 4000000 in
theorem cK_hasClass {a : L_} {r : S_} {K : Int32 → Prop} (p0 : Int32) (h : qK_hasClass a r K p0) : vx_Mi l yK_hasClass (Cond.code yK_hasClass prog_2_method_2_code 2 (some .boolean) :: wAll) { frames := 0, cells := 0, slots := 0, locals := 0 } D vwCl (tysG G) nwAll (wo G a r) [.ref (ob G 2), .int p0] 0 0 (fun v w => w = wo G a r ∧ zb v ∧ K v) := by
  unfold qK_hasClass at h
  refine x_meti (cc := prog_2_method_2_code) (maxL := 2) (ret := (some .boolean)) (lv0 := [(0, .ref (ob G 2)), (1, .int p0)]) (by decide) rfl (Nat.le_of_ble_eq_true rfl) rfl ?_
  intro p e s m args below meth c A C hA hlocks hr
  refine x_iload_n C dK_hasClass_0 rfl 1 rfl ?_
  refine x_if_lt (tgt := 16) C dK_hasClass_1 (by decide) (fun g1 => ?_) (fun g1 => ?_)
  · have h := h.1 g1
    refine x_iconst (v := 0) C dK_hasClass_16 (by decide) ?_
    obtain ⟨g2, h⟩ := h
    exact x_zret C hA hlocks hr (zb_n g2) ⟨rfl, g2, h⟩ dK_hasClass_17
  · have h := h.2 g1
    refine x_iload_n C dK_hasClass_4 rfl 1 rfl ?_
    refine x_aload_n C dK_hasClass_5 rfl 0 rfl ?_
    refine gf_2_3 C (List.mem_cons_of_mem _ wm72) dK_hasClass_6 ?_
    refine x_icmp_ge (tgt := 16) C dK_hasClass_9 (by decide) (fun g3 => ?_) (fun g3 => ?_)
    · have h := h.1 g3
      refine x_iconst (v := 0) C dK_hasClass_16 (by decide) ?_
      obtain ⟨g4, h⟩ := h
      exact x_zret C hA hlocks hr (zb_n g4) ⟨rfl, g4, h⟩ dK_hasClass_17
    · have h := h.2 g3
      refine x_iconst (v := 1) C dK_hasClass_12 (by decide) ?_
      refine x_goto (tgt := 17) C dK_hasClass_13 (by decide) ?_
      obtain ⟨g5, h⟩ := h
      exact x_zret C hA hlocks hr (zb_n g5) ⟨rfl, g5, h⟩ dK_hasClass_17
set_option maxRecDepth 100000 in
set_option maxHeartbeats 4000000 in
theorem kK_hasClass {p : Program} {l : Launch} {e : Env} {R : Room} {s : State} {m : MethodId} {args : Array Value} {below : List Frame} {meth : Method} {c : Code} {cells slots : Nat} {Q : State → Prop} {A : Nat → Prop} {D : va_G} {nL pc : Nat} {cc : ByteArray} {cw : Cond} {own : String} {lv : List (Nat × Value)} {st : List Value} {G : G_} {a : L_} {r : S_} {K : Int32 → Prop} {p0 : Int32} (C : vx_C p s m args c cc nL (cw :: wAll) own D vwCl (tysG G) nwAll A) {i : Nat} (hl : Cond.methodLink own i yK_hasClass ∈ wAll) (hR : 0 + 1 ≤ R.frames ∧ 8 + (2 + 11) + 0 ≤ R.locals) (hst : (st.map fun v => v.category).sum ≤ 8) (hd : decode cc pc = .ok (.invokevirtual i, 3)) (hcs : cells ≤ R.cells ∧ slots ≤ R.slots) (h : qK_hasClass a r K p0) (k : ∀ (v : Int32), zb v → K v → vx_V p l e R s m args below meth c A D vwCl nL cells slots Q (wo G a r) (pc + 3) lv (.int v :: st)) : vx_V p l e R s m args below meth c A D vwCl nL cells slots Q (wo G a r) pc lv (.int p0 :: .ref (ob G 2) :: st) := by
  refine x_callVi C (CC := "ClassInference$ClassTable") (ci := 2) (q0 := 2) (fs := fl2 G a r) (As := [.int p0]) rfl rfl (cK_hasClass p0 h) (cwV (C := "ClassInference$ClassTable") 1 C.1.2.2.2.2 (goodV hl wm343 wm344 wm3 wm345) rfl rfl rfl (by decide +kernel) hR) rfl hst hd hcs (fun v w hw => ?_)
  obtain ⟨rfl, h⟩ := hw
  exact k v h.1 h.2
def qK_addClass_J51 (a : L_) (K : Int32 → S_ → Prop) (r : S_) (u0 : Int32) (u1 : Int32) (u2 : Int32) : Prop :=
  vp_in u2 (ln a 7) ∧ ∀ r7 : S_, r7 = sA r 7 (upd (ar r 7) u2.toNatClampNeg (u1 ||| u0)) → vp_in (fi r7 2) (ln a 8) ∧ ∀ r9 : S_, r9 = sA r7 8 (upd (ar r7 8) (fi r7 2).toNatClampNeg (-1)) → ∀ r10 : S_, r10 = sF r9 2 ((fi r9 2) + 1) → K ((fi r10 2) - 1) r10
set_option maxRecDepth 100000 in
set_option maxHeartbeats 4000000 in
theorem tK_addClass_J51 (C : vx_C p s m args c prog_2_method_6_code 2 (Cond.code yK_addClass prog_2_method_6_code 2 (some .int) :: wAll) "ClassInference$ClassTable" D vwCl (tysG G) nwAll A) (hA : A = va_A ws0 s.heap.size) (hlocks : meth.locks = false) (hr : meth.sig.returnType = (some .int)) {a : L_} {K : Int32 → S_ → Prop} (r : S_) (u0 : Int32) (u1 : Int32) (u2 : Int32) (h : qK_addClass_J51 a K r u0 u1 u2) : vx_V p l e { frames := 0, cells := 0, slots := 0, locals := 0 } s m args below meth c A D vwCl 2 0 0 (MQ below (va_Qi (fun v w => ∃ r1, w = wo G a r1 ∧ K v r1) (vx_B D vwCl (tysG G) A) A) args s 0 0 A) (wo G a r) 51 [(0, .ref (ob G 2))] [.int u0, .int u1, .int u2, .ref (ad a 7)] := by
  unfold qK_addClass_J51 at h
  refine x_ior C dK_addClass_51 ?_
  obtain ⟨g6, h⟩ := h
  refine y_is C 7 (by decide) g6 dK_addClass_52 (fun r7 er7 => ?_)
  have h := h r7 er7
  refine x_aload_n C dK_addClass_53 rfl 0 rfl ?_
  refine gf_2_2 C (List.mem_cons_of_mem _ wm71) dK_addClass_54 ?_
  refine x_aload_n C dK_addClass_57 rfl 0 rfl ?_
  refine gf_2_3 C (List.mem_cons_of_mem _ wm72) dK_addClass_58 ?_
  refine x_iconst (v := (-1)) C dK_addClass_61 (by decide) ?_
  obtain ⟨g8, h⟩ := h
  refine y_is C 8 (by decide) g8 dK_addClass_62 (fun r9 er9 => ?_)
  have h := h r9 er9
  refine x_aload_n C dK_addClass_63 rfl 0 rfl ?_
  refine x_dup C dK_addClass_64 rfl ?_
  refine gf_2_3 C (List.mem_cons_of_mem _ wm72) dK_addClass_65 ?_
  refine x_iconst (v := 1) C dK_addClass_68 (by decide) ?_
  refine x_iadd C dK_addClass_69 ?_
  refine pf_2_3 C (List.mem_cons_of_mem _ wm72) dK_addClass_70 (fun r10 er10 => ?_)
  have h := h r10 er10
  refine x_aload_n C dK_addClass_73 rfl 0 rfl ?_
  refine gf_2_3 C (List.mem_cons_of_mem _ wm72) dK_addClass_74 ?_
  refine x_iconst (v := 1) C dK_addClass_77 (by decide) ?_
  refine x_isub C dK_addClass_78 ?_
  exact x_iret C hA hlocks hr ⟨r10, rfl, h⟩ dK_addClass_79
def qK_addClass (a : L_) (K : Int32 → S_ → Prop) (r : S_) (p0 : Int32) : Prop :=
  (((fi r 2) < 8) → vp_in (fi r 2) (ln a 6) ∧ ∀ r3 : S_, r3 = sA r 6 (upd (ar r 6) (fi r 2).toNatClampNeg p0) → ((¬ p0 = (-1)) → vp_in p0 (ln a 7) ∧ qK_addClass_J51 a K r3 (ar r3 7 p0.toNatClampNeg) (1 <<< ((fi r3 2) &&& 31)) (fi r3 2)) ∧ ((p0 = (-1)) → qK_addClass_J51 a K r3 0 (1 <<< ((fi r3 2) &&& 31)) (fi r3 2))) ∧ ((¬ (fi r 2) < 8) → K (-3) r)
set_option maxRecDepth 100000 in
set_option maxHeartbeats 4000000 in
theorem cK_addClass {a : L_} {r : S_} {K : Int32 → S_ → Prop} (p0 : Int32) (h : qK_addClass a K r p0) : vx_Mi l yK_addClass (Cond.code yK_addClass prog_2_method_6_code 2 (some .int) :: wAll) { frames := 0, cells := 0, slots := 0, locals := 0 } D vwCl (tysG G) nwAll (wo G a r) [.ref (ob G 2), .int p0] 0 0 (fun v w => ∃ r1, w = wo G a r1 ∧ K v r1) := by
  unfold qK_addClass at h
  refine x_meti (cc := prog_2_method_6_code) (maxL := 2) (ret := (some .int)) (lv0 := [(0, .ref (ob G 2)), (1, .int p0)]) (by decide) rfl (Nat.le_of_ble_eq_true rfl) rfl ?_
  intro p e s m args below meth c A C hA hlocks hr
  refine x_aload_n C dK_addClass_0 rfl 0 rfl ?_
  refine gf_2_3 C (List.mem_cons_of_mem _ wm72) dK_addClass_1 ?_
  refine x_bipush (v := 8) C dK_addClass_4 (by decide) ?_
  refine x_icmp_lt (tgt := 12) C dK_addClass_6 (by decide) (fun g1 => ?_) (fun g1 => ?_)
  · have h := h.1 g1
    refine x_aload_n C dK_addClass_12 rfl 0 rfl ?_
    refine gf_2_0 C (List.mem_cons_of_mem _ wm69) dK_addClass_13 ?_
    refine x_aload_n C dK_addClass_16 rfl 0 rfl ?_
    refine gf_2_3 C (List.mem_cons_of_mem _ wm72) dK_addClass_17 ?_
    refine x_iload_n C dK_addClass_20 rfl 1 rfl ?_
    obtain ⟨g2, h⟩ := h
    refine y_is C 6 (by decide) g2 dK_addClass_21 (fun r3 er3 => ?_)
    have h := h r3 er3
    refine x_aload_n C dK_addClass_22 rfl 0 rfl ?_
    refine gf_2_1 C (List.mem_cons_of_mem _ wm70) dK_addClass_23 ?_
    refine x_aload_n C dK_addClass_26 rfl 0 rfl ?_
    refine gf_2_3 C (List.mem_cons_of_mem _ wm72) dK_addClass_27 ?_
    refine x_iconst (v := 1) C dK_addClass_30 (by decide) ?_
    refine x_aload_n C dK_addClass_31 rfl 0 rfl ?_
    refine gf_2_3 C (List.mem_cons_of_mem _ wm72) dK_addClass_32 ?_
    refine x_ishl C dK_addClass_35 ?_
    refine x_iload_n C dK_addClass_36 rfl 1 rfl ?_
    refine x_iconst (v := (-1)) C dK_addClass_37 (by decide) ?_
    refine x_icmp_ne (tgt := 45) C dK_addClass_38 (by decide) (fun g4 => ?_) (fun g4 => ?_)
    · have h := h.1 g4
      refine x_aload_n C dK_addClass_45 rfl 0 rfl ?_
      refine gf_2_1 C (List.mem_cons_of_mem _ wm70) dK_addClass_46 ?_
      refine x_iload_n C dK_addClass_49 rfl 1 rfl ?_
      obtain ⟨g5, h⟩ := h
      refine y_ia C 7 (by decide) g5 dK_addClass_50 ?_
      refine x_sub [0] rfl ?_
      exact tK_addClass_J51 C hA hlocks hr r3 (ar r3 7 p0.toNatClampNeg) (1 <<< ((fi r3 2) &&& 31)) (fi r3 2) h
    · have h := h.2 g4
      refine x_iconst (v := 0) C dK_addClass_41 (by decide) ?_
      refine x_goto (tgt := 51) C dK_addClass_42 (by decide) ?_
      refine x_sub [0] rfl ?_
      exact tK_addClass_J51 C hA hlocks hr r3 0 (1 <<< ((fi r3 2) &&& 31)) (fi r3 2) h
  · have h := h.2 g1
    refine x_bipush (v := (-3)) C dK_addClass_9 (by decide) ?_
    exact x_iret C hA hlocks hr ⟨r, rfl, h⟩ dK_addClass_11
set_option maxRecDepth 100000 in
set_option maxHeartbeats 4000000 in
theorem kK_addClass {p : Program} {l : Launch} {e : Env} {R : Room} {s : State} {m : MethodId} {args : Array Value} {below : List Frame} {meth : Method} {c : Code} {cells slots : Nat} {Q : State → Prop} {A : Nat → Prop} {D : va_G} {nL pc : Nat} {cc : ByteArray} {cw : Cond} {own : String} {lv : List (Nat × Value)} {st : List Value} {G : G_} {a : L_} {r : S_} {K : Int32 → S_ → Prop} {p0 : Int32} (C : vx_C p s m args c cc nL (cw :: wAll) own D vwCl (tysG G) nwAll A) {i : Nat} (hl : Cond.methodLink own i yK_addClass ∈ wAll) (hR : 0 + 1 ≤ R.frames ∧ 8 + (2 + 11) + 0 ≤ R.locals) (hst : (st.map fun v => v.category).sum ≤ 8) (hd : decode cc pc = .ok (.invokevirtual i, 3)) (hcs : cells ≤ R.cells ∧ slots ≤ R.slots) (h : qK_addClass a K r p0) (k : ∀ (v : Int32) (r1 : S_), K v r1 → vx_V p l e R s m args below meth c A D vwCl nL cells slots Q (wo G a r1) (pc + 3) lv (.int v :: st)) : vx_V p l e R s m args below meth c A D vwCl nL cells slots Q (wo G a r) pc lv (.int p0 :: .ref (ob G 2) :: st) := by
  refine x_callVi C (CC := "ClassInference$ClassTable") (ci := 2) (q0 := 2) (fs := fl2 G a r) (As := [.int p0]) rfl rfl (cK_addClass p0 h) (cwV (C := "ClassInference$ClassTable") 1 C.1.2.2.2.2 (goodV hl wm347 wm348 wm3 wm349) rfl rfl rfl (by decide +kernel) hR) rfl hst hd hcs (fun v w hw => ?_)
  obtain ⟨r1, rfl, h⟩ := hw
  exact k v r1 h
def qI_class0_J18 (a : L_) (K : Int32 → S_ → Prop) (r : S_) (v1 : Int32) : Prop :=
  qK_addClass a (fun z2 r3 => K z2 r3) r v1
set_option maxRecDepth 100000 in
set_option maxHeartbeats 4000000 in
theorem tI_class0_J18 (C : vx_C p s m args c prog_1_method_5_code 2 (Cond.code yI_class0 prog_1_method_5_code 2 (some .int) :: wAll) "ClassInference" D vwCl (tysG G) nwAll A) (hA : A = va_A ws0 s.heap.size) (hlocks : meth.locks = false) (hr : meth.sig.returnType = (some .int)) {a : L_} {K : Int32 → S_ → Prop} (r : S_) (v1 : Int32) (h : qI_class0_J18 a K r v1) : vx_V p l e { frames := 1, cells := 0, slots := 0, locals := 21 } s m args below meth c A D vwCl 2 0 0 (MQ below (va_Qi (fun v w => ∃ r1, w = wo G a r1 ∧ K v r1) (vx_B D vwCl (tysG G) A) A) args s 0 0 A) (wo G a r) 18 [(0, .ref (ob G 0)), (1, .int v1)] [] := by
  unfold qI_class0_J18 at h
  refine x_aload_n C dI_class0_18 rfl 0 rfl ?_
  refine gf_0_1 C (List.mem_cons_of_mem _ wm279) dI_class0_19 ?_
  refine x_iload_n C dI_class0_22 rfl 1 rfl ?_
  refine kK_addClass C wm346 ⟨Nat.le_of_ble_eq_true rfl, Nat.le_of_ble_eq_true rfl⟩ (Nat.le_of_ble_eq_true rfl) dI_class0_23 ⟨Nat.zero_le _, Nat.zero_le _⟩ h (fun z2 r3 h => ?_)
  exact x_iret C hA hlocks hr ⟨r3, rfl, h⟩ dI_class0_26
def qI_class0 (a : L_) (K : Int32 → S_ → Prop) (r : S_) (p0 : Int32) : Prop :=
  ((p0 = (-1)) → qI_class0_J18 a K r p0) ∧ ((¬ p0 = (-1)) → qK_hasClass a r (fun z4 => zb z4 → ((¬ z4 = 0) → qI_class0_J18 a K r p0) ∧ ((z4 = 0) → K (-1) r)) p0)
set_option maxRecDepth 100000 in
set_option maxHeartbeats 4000000 in
theorem cI_class0 {a : L_} {r : S_} {K : Int32 → S_ → Prop} (p0 : Int32) (h : qI_class0 a K r p0) : vx_Mi l yI_class0 (Cond.code yI_class0 prog_1_method_5_code 2 (some .int) :: wAll) { frames := 1, cells := 0, slots := 0, locals := 21 } D vwCl (tysG G) nwAll (wo G a r) [.ref (ob G 0), .int p0] 0 0 (fun v w => ∃ r1, w = wo G a r1 ∧ K v r1) := by
  unfold qI_class0 at h
  refine x_meti (cc := prog_1_method_5_code) (maxL := 2) (ret := (some .int)) (lv0 := [(0, .ref (ob G 0)), (1, .int p0)]) (by decide) rfl (Nat.le_of_ble_eq_true rfl) rfl ?_
  intro p e s m args below meth c A C hA hlocks hr
  refine x_iload_n C dI_class0_0 rfl 1 rfl ?_
  refine x_iconst (v := (-1)) C dI_class0_1 (by decide) ?_
  refine x_icmp_eq (tgt := 18) C dI_class0_2 (by decide) (fun g1 => ?_) (fun g1 => ?_)
  · have h := h.1 g1
    refine x_sub [0, 1] rfl ?_
    exact tI_class0_J18 C hA hlocks hr r p0 h
  · have h := h.2 g1
    refine x_aload_n C dI_class0_5 rfl 0 rfl ?_
    refine gf_0_1 C (List.mem_cons_of_mem _ wm279) dI_class0_6 ?_
    refine x_iload_n C dI_class0_9 rfl 1 rfl ?_
    refine kK_hasClass C wm342 ⟨Nat.le_of_ble_eq_true rfl, Nat.le_of_ble_eq_true rfl⟩ (Nat.le_of_ble_eq_true rfl) dI_class0_10 ⟨Nat.zero_le _, Nat.zero_le _⟩ h (fun z4 hzz4 h => ?_)
    have h := h hzz4
    refine x_if_ne (tgt := 18) C dI_class0_13 (by decide) (fun g5 => ?_) (fun g5 => ?_)
    · have h := h.1 g5
      refine x_sub [0, 1] rfl ?_
      exact tI_class0_J18 C hA hlocks hr r p0 h
    · have h := h.2 g5
      refine x_iconst (v := (-1)) C dI_class0_16 (by decide) ?_
      exact x_iret C hA hlocks hr ⟨r, rfl, h⟩ dI_class0_17
set_option maxRecDepth 100000 in
set_option maxHeartbeats 4000000 in
theorem kI_class0 {p : Program} {l : Launch} {e : Env} {R : Room} {s : State} {m : MethodId} {args : Array Value} {below : List Frame} {meth : Method} {c : Code} {cells slots : Nat} {Q : State → Prop} {A : Nat → Prop} {D : va_G} {nL pc : Nat} {cc : ByteArray} {cw : Cond} {own : String} {lv : List (Nat × Value)} {st : List Value} {G : G_} {a : L_} {r : S_} {K : Int32 → S_ → Prop} {p0 : Int32} (C : vx_C p s m args c cc nL (cw :: wAll) own D vwCl (tysG G) nwAll A) {i : Nat} (hl : Cond.methodLink own i yI_class0 ∈ wAll) (hR : 1 + 1 ≤ R.frames ∧ 8 + (2 + 11) + 21 ≤ R.locals) (hst : (st.map fun v => v.category).sum ≤ 8) (hd : decode cc pc = .ok (.invokevirtual i, 3)) (hcs : cells ≤ R.cells ∧ slots ≤ R.slots) (h : qI_class0 a K r p0) (k : ∀ (v : Int32) (r1 : S_), K v r1 → vx_V p l e R s m args below meth c A D vwCl nL cells slots Q (wo G a r1) (pc + 3) lv (.int v :: st)) : vx_V p l e R s m args below meth c A D vwCl nL cells slots Q (wo G a r) pc lv (.int p0 :: .ref (ob G 0) :: st) := by
  refine x_callVi C (CC := "ClassInference") (ci := 0) (q0 := 0) (fs := fl0 G a r) (As := [.int p0]) rfl rfl (cI_class0 p0 h) (cwV (C := "ClassInference") 1 C.1.2.2.2.2 (goodV hl wm339 wm340 wm1 wm341) rfl rfl rfl (by decide +kernel) hR) rfl hst hd hcs (fun v w hw => ?_)
  obtain ⟨r1, rfl, h⟩ := hw
  exact k v r1 h
def qK_methodOf (a : L_) (r : S_) (K : Int32 → Prop) (p0 : Int32) : Prop :=
  vp_in p0 (ln a 8) ∧ K (ar r 8 p0.toNatClampNeg)
set_option maxRecDepth 100000 in
set_option maxHeartbeats 4000000 in
theorem cK_methodOf {a : L_} {r : S_} {K : Int32 → Prop} (p0 : Int32) (h : qK_methodOf a r K p0) : vx_Mi l yK_methodOf (Cond.code yK_methodOf prog_2_method_4_code 2 (some .int) :: wAll) { frames := 0, cells := 0, slots := 0, locals := 0 } D vwCl (tysG G) nwAll (wo G a r) [.ref (ob G 2), .int p0] 0 0 (fun v w => w = wo G a r ∧ K v) := by
  unfold qK_methodOf at h
  refine x_meti (cc := prog_2_method_4_code) (maxL := 2) (ret := (some .int)) (lv0 := [(0, .ref (ob G 2)), (1, .int p0)]) (by decide) rfl (Nat.le_of_ble_eq_true rfl) rfl ?_
  intro p e s m args below meth c A C hA hlocks hr
  refine x_aload_n C dK_methodOf_0 rfl 0 rfl ?_
  refine gf_2_2 C (List.mem_cons_of_mem _ wm71) dK_methodOf_1 ?_
  refine x_iload_n C dK_methodOf_4 rfl 1 rfl ?_
  obtain ⟨g1, h⟩ := h
  refine y_ia C 8 (by decide) g1 dK_methodOf_5 ?_
  exact x_iret C hA hlocks hr ⟨rfl, h⟩ dK_methodOf_6
set_option maxRecDepth 100000 in
set_option maxHeartbeats 4000000 in
theorem kK_methodOf {p : Program} {l : Launch} {e : Env} {R : Room} {s : State} {m : MethodId} {args : Array Value} {below : List Frame} {meth : Method} {c : Code} {cells slots : Nat} {Q : State → Prop} {A : Nat → Prop} {D : va_G} {nL pc : Nat} {cc : ByteArray} {cw : Cond} {own : String} {lv : List (Nat × Value)} {st : List Value} {G : G_} {a : L_} {r : S_} {K : Int32 → Prop} {p0 : Int32} (C : vx_C p s m args c cc nL (cw :: wAll) own D vwCl (tysG G) nwAll A) {i : Nat} (hl : Cond.methodLink own i yK_methodOf ∈ wAll) (hR : 0 + 1 ≤ R.frames ∧ 8 + (2 + 11) + 0 ≤ R.locals) (hst : (st.map fun v => v.category).sum ≤ 8) (hd : decode cc pc = .ok (.invokevirtual i, 3)) (hcs : cells ≤ R.cells ∧ slots ≤ R.slots) (h : qK_methodOf a r K p0) (k : ∀ (v : Int32), K v → vx_V p l e R s m args below meth c A D vwCl nL cells slots Q (wo G a r) (pc + 3) lv (.int v :: st)) : vx_V p l e R s m args below meth c A D vwCl nL cells slots Q (wo G a r) pc lv (.int p0 :: .ref (ob G 2) :: st) := by
  refine x_callVi C (CC := "ClassInference$ClassTable") (ci := 2) (q0 := 2) (fs := fl2 G a r) (As := [.int p0]) rfl rfl (cK_methodOf p0 h) (cwV (C := "ClassInference$ClassTable") 1 C.1.2.2.2.2 (goodV hl wm355 wm356 wm3 wm357) rfl rfl rfl (by decide +kernel) hR) rfl hst hd hcs (fun v w hw => ?_)
  obtain ⟨rfl, h⟩ := hw
  exact k v h
def qT_holdsVariable (a : L_) (r : S_) (K : Int32 → Prop) (p0 : Int32) (p1 : Int32) : Prop :=
  vp_in p0 (ln a 5) ∧ ((((ar r 5 p0.toNatClampNeg) &&& (1 <<< (p1 &&& 31))) = 0) → zb 0 ∧ K 0) ∧ ((¬ ((ar r 5 p0.toNatClampNeg) &&& (1 <<< (p1 &&& 31))) = 0) → zb 1 ∧ K 1)
set_option maxRecDepth 100000 in
set_option maxHeartbeats 4000000 in
theorem cT_holdsVariable {a : L_} {r : S_} {K : Int32 → Prop} (p0 : Int32) (p1 : Int32) (h : qT_holdsVariable a r K p0 p1) : vx_Mi l yT_holdsVariable (Cond.code yT_holdsVariable prog_6_method_6_code 3 (some .boolean) :: wAll) { frames := 0, cells := 0, slots := 0, locals := 0 } D vwCl (tysG G) nwAll (wo G a r) [.ref (ob G 1), .int p0, .int p1] 0 0 (fun v w => w = wo G a r ∧ zb v ∧ K v) := by
  unfold qT_holdsVariable at h
  refine x_meti (cc := prog_6_method_6_code) (maxL := 3) (ret := (some .boolean)) (lv0 := [(0, .ref (ob G 1)), (1, .int p0), (2, .int p1)]) (by decide) rfl (Nat.le_of_ble_eq_true rfl) rfl ?_
  intro p e s m args below meth c A C hA hlocks hr
  refine x_aload_n C dT_holdsVariable_0 rfl 0 rfl ?_
  refine gf_1_6 C (List.mem_cons_of_mem _ wm39) dT_holdsVariable_1 ?_
  refine x_iload_n C dT_holdsVariable_4 rfl 1 rfl ?_
  obtain ⟨g1, h⟩ := h
  refine y_ia C 5 (by decide) g1 dT_holdsVariable_5 ?_
  refine x_iconst (v := 1) C dT_holdsVariable_6 (by decide) ?_
  refine x_iload_n C dT_holdsVariable_7 rfl 2 rfl ?_
  refine x_ishl C dT_holdsVariable_8 ?_
  refine x_iand C dT_holdsVariable_9 ?_
  refine x_if_eq (tgt := 17) C dT_holdsVariable_10 (by decide) (fun g2 => ?_) (fun g2 => ?_)
  · have h := h.1 g2
    refine x_iconst (v := 0) C dT_holdsVariable_17 (by decide) ?_
    obtain ⟨g3, h⟩ := h
    exact x_zret C hA hlocks hr (zb_n g3) ⟨rfl, g3, h⟩ dT_holdsVariable_18
  · have h := h.2 g2
    refine x_iconst (v := 1) C dT_holdsVariable_13 (by decide) ?_
    refine x_goto (tgt := 18) C dT_holdsVariable_14 (by decide) ?_
    obtain ⟨g4, h⟩ := h
    exact x_zret C hA hlocks hr (zb_n g4) ⟨rfl, g4, h⟩ dT_holdsVariable_18
set_option maxRecDepth 100000 in
set_option maxHeartbeats 4000000 in
theorem kT_holdsVariable {p : Program} {l : Launch} {e : Env} {R : Room} {s : State} {m : MethodId} {args : Array Value} {below : List Frame} {meth : Method} {c : Code} {cells slots : Nat} {Q : State → Prop} {A : Nat → Prop} {D : va_G} {nL pc : Nat} {cc : ByteArray} {cw : Cond} {own : String} {lv : List (Nat × Value)} {st : List Value} {G : G_} {a : L_} {r : S_} {K : Int32 → Prop} {p0 : Int32} {p1 : Int32} (C : vx_C p s m args c cc nL (cw :: wAll) own D vwCl (tysG G) nwAll A) {i : Nat} (hl : Cond.methodLink own i yT_holdsVariable ∈ wAll) (hR : 0 + 1 ≤ R.frames ∧ 8 + (3 + 11) + 0 ≤ R.locals) (hst : (st.map fun v => v.category).sum ≤ 8) (hd : decode cc pc = .ok (.invokevirtual i, 3)) (hcs : cells ≤ R.cells ∧ slots ≤ R.slots) (h : qT_holdsVariable a r K p0 p1) (k : ∀ (v : Int32), zb v → K v → vx_V p l e R s m args below meth c A D vwCl nL cells slots Q (wo G a r) (pc + 3) lv (.int v :: st)) : vx_V p l e R s m args below meth c A D vwCl nL cells slots Q (wo G a r) pc lv (.int p1 :: .int p0 :: .ref (ob G 1) :: st) := by
  refine x_callVi C (CC := "ClassInference$TypeTable") (ci := 1) (q0 := 1) (fs := fl1 G a r) (As := [.int p0, .int p1]) rfl rfl (cT_holdsVariable p0 p1 h) (cwV (C := "ClassInference$TypeTable") 2 C.1.2.2.2.2 (goodV hl wm359 wm360 wm2 wm361) rfl rfl rfl (by decide +kernel) hR) rfl hst hd hcs (fun v w hw => ?_)
  obtain ⟨rfl, h⟩ := hw
  exact k v h.1 h.2
def qK_setMethod (a : L_) (K : S_ → Prop) (r : S_) (p0 : Int32) (p1 : Int32) : Prop :=
  vp_in p0 (ln a 8) ∧ ∀ r2 : S_, r2 = sA r 8 (upd (ar r 8) p0.toNatClampNeg p1) → K r2
set_option maxRecDepth 100000 in
set_option maxHeartbeats 4000000 in
theorem cK_setMethod {a : L_} {r : S_} {K : S_ → Prop} (p0 : Int32) (p1 : Int32) (h : qK_setMethod a K r p0 p1) : vx_Mv l yK_setMethod (Cond.code yK_setMethod prog_2_method_5_code 3 none :: wAll) { frames := 0, cells := 0, slots := 0, locals := 0 } D vwCl (tysG G) nwAll (wo G a r) [.ref (ob G 2), .int p0, .int p1] 0 0 (fun w => ∃ r1, w = wo G a r1 ∧ K r1) := by
  unfold qK_setMethod at h
  refine x_metv (cc := prog_2_method_5_code) (maxL := 3) (ret := none) (lv0 := [(0, .ref (ob G 2)), (1, .int p0), (2, .int p1)]) (by decide) rfl (Nat.le_of_ble_eq_true rfl) rfl ?_
  intro p e s m args below meth c A C hA hlocks hr
  refine x_aload_n C dK_setMethod_0 rfl 0 rfl ?_
  refine gf_2_2 C (List.mem_cons_of_mem _ wm71) dK_setMethod_1 ?_
  refine x_iload_n C dK_setMethod_4 rfl 1 rfl ?_
  refine x_iload_n C dK_setMethod_5 rfl 2 rfl ?_
  obtain ⟨g1, h⟩ := h
  refine y_is C 8 (by decide) g1 dK_setMethod_6 (fun r2 er2 => ?_)
  have h := h r2 er2
  exact x_vret C hA hlocks hr ⟨r2, rfl, h⟩ dK_setMethod_7
set_option maxRecDepth 100000 in
set_option maxHeartbeats 4000000 in
theorem kK_setMethod {p : Program} {l : Launch} {e : Env} {R : Room} {s : State} {m : MethodId} {args : Array Value} {below : List Frame} {meth : Method} {c : Code} {cells slots : Nat} {Q : State → Prop} {A : Nat → Prop} {D : va_G} {nL pc : Nat} {cc : ByteArray} {cw : Cond} {own : String} {lv : List (Nat × Value)} {st : List Value} {G : G_} {a : L_} {r : S_} {K : S_ → Prop} {p0 : Int32} {p1 : Int32} (C : vx_C p s m args c cc nL (cw :: wAll) own D vwCl (tysG G) nwAll A) {i : Nat} (hl : Cond.methodLink own i yK_setMethod ∈ wAll) (hR : 0 + 1 ≤ R.frames ∧ 8 + (3 + 11) + 0 ≤ R.locals) (hst : (st.map fun v => v.category).sum ≤ 8) (hd : decode cc pc = .ok (.invokevirtual i, 3)) (hcs : cells ≤ R.cells ∧ slots ≤ R.slots) (h : qK_setMethod a K r p0 p1) (k : ∀ (r1 : S_), K r1 → vx_V p l e R s m args below meth c A D vwCl nL cells slots Q (wo G a r1) (pc + 3) lv st) : vx_V p l e R s m args below meth c A D vwCl nL cells slots Q (wo G a r) pc lv (.int p1 :: .int p0 :: .ref (ob G 2) :: st) := by
  refine x_callVv C (CC := "ClassInference$ClassTable") (ci := 2) (q0 := 2) (fs := fl2 G a r) (As := [.int p0, .int p1]) rfl rfl (cK_setMethod p0 p1 h) (cwV (C := "ClassInference$ClassTable") 2 C.1.2.2.2.2 (goodV hl wm363 wm364 wm3 wm365) rfl rfl rfl (by decide +kernel) hR) rfl hst hd hcs (fun w hw => ?_)
  obtain ⟨r1, rfl, h⟩ := hw
  exact k r1 h
def qI_method (a : L_) (K : Int32 → S_ → Prop) (r : S_) (p0 : Int32) (p1 : Int32) : Prop :=
  qK_hasClass a r (fun z1 => zb z1 → ((z1 = 0) → K (-1) r) ∧ ((¬ z1 = 0) → qT_hasType a r (fun z3 => zb z3 → ((¬ z3 = 0) → qK_methodOf a r (fun z5 => ((¬ z5 = (-1)) → K (-1) r) ∧ ((z5 = (-1)) → qT_holdsVariable a r (fun z7 => zb z7 → ((¬ z7 = 0) → qK_setMethod a (fun r9 => K 1 r9) r p0 p1) ∧ ((z7 = 0) → K (-1) r)) p1 0)) p0) ∧ ((z3 = 0) → K (-1) r)) p1)) p0
set_option maxRecDepth 100000 in
set_option maxHeartbeats 4000000 in
theorem cI_method {a : L_} {r : S_} {K : Int32 → S_ → Prop} (p0 : Int32) (p1 : Int32) (h : qI_method a K r p0 p1) : vx_Mi l yI_method (Cond.code yI_method prog_1_method_6_code 3 (some .int) :: wAll) { frames := 1, cells := 0, slots := 0, locals := 22 } D vwCl (tysG G) nwAll (wo G a r) [.ref (ob G 0), .int p0, .int p1] 0 0 (fun v w => ∃ r1, w = wo G a r1 ∧ K v r1) := by
  unfold qI_method at h
  refine x_meti (cc := prog_1_method_6_code) (maxL := 3) (ret := (some .int)) (lv0 := [(0, .ref (ob G 0)), (1, .int p0), (2, .int p1)]) (by decide) rfl (Nat.le_of_ble_eq_true rfl) rfl ?_
  intro p e s m args below meth c A C hA hlocks hr
  refine x_aload_n C dI_method_0 rfl 0 rfl ?_
  refine gf_0_1 C (List.mem_cons_of_mem _ wm279) dI_method_1 ?_
  refine x_iload_n C dI_method_4 rfl 1 rfl ?_
  refine kK_hasClass C wm342 ⟨Nat.le_of_ble_eq_true rfl, Nat.le_of_ble_eq_true rfl⟩ (Nat.le_of_ble_eq_true rfl) dI_method_5 ⟨Nat.zero_le _, Nat.zero_le _⟩ h (fun z1 hzz1 h => ?_)
  have h := h hzz1
  refine x_if_eq (tgt := 22) C dI_method_8 (by decide) (fun g2 => ?_) (fun g2 => ?_)
  · have h := h.1 g2
    refine x_iconst (v := (-1)) C dI_method_22 (by decide) ?_
    exact x_iret C hA hlocks hr ⟨r, rfl, h⟩ dI_method_23
  · have h := h.2 g2
    refine x_aload_n C dI_method_11 rfl 0 rfl ?_
    refine gf_0_0 C (List.mem_cons_of_mem _ wm278) dI_method_12 ?_
    refine x_iload_n C dI_method_15 rfl 2 rfl ?_
    refine kT_hasType C wm330 ⟨Nat.le_of_ble_eq_true rfl, Nat.le_of_ble_eq_true rfl⟩ (Nat.le_of_ble_eq_true rfl) dI_method_16 ⟨Nat.zero_le _, Nat.zero_le _⟩ h (fun z3 hzz3 h => ?_)
    have h := h hzz3
    refine x_if_ne (tgt := 24) C dI_method_19 (by decide) (fun g4 => ?_) (fun g4 => ?_)
    · have h := h.1 g4
      refine x_aload_n C dI_method_24 rfl 0 rfl ?_
      refine gf_0_1 C (List.mem_cons_of_mem _ wm279) dI_method_25 ?_
      refine x_iload_n C dI_method_28 rfl 1 rfl ?_
      refine kK_methodOf C wm354 ⟨Nat.le_of_ble_eq_true rfl, Nat.le_of_ble_eq_true rfl⟩ (Nat.le_of_ble_eq_true rfl) dI_method_29 ⟨Nat.zero_le _, Nat.zero_le _⟩ h (fun z5 h => ?_)
      refine x_iconst (v := (-1)) C dI_method_32 (by decide) ?_
      refine x_icmp_ne (tgt := 48) C dI_method_33 (by decide) (fun g6 => ?_) (fun g6 => ?_)
      · have h := h.1 g6
        refine x_iconst (v := (-1)) C dI_method_48 (by decide) ?_
        exact x_iret C hA hlocks hr ⟨r, rfl, h⟩ dI_method_49
      · have h := h.2 g6
        refine x_aload_n C dI_method_36 rfl 0 rfl ?_
        refine gf_0_0 C (List.mem_cons_of_mem _ wm278) dI_method_37 ?_
        refine x_iload_n C dI_method_40 rfl 2 rfl ?_
        refine x_iconst (v := 0) C dI_method_41 (by decide) ?_
        refine kT_holdsVariable C wm358 ⟨Nat.le_of_ble_eq_true rfl, Nat.le_of_ble_eq_true rfl⟩ (Nat.le_of_ble_eq_true rfl) dI_method_42 ⟨Nat.zero_le _, Nat.zero_le _⟩ h (fun z7 hzz7 h => ?_)
        have h := h hzz7
        refine x_if_ne (tgt := 50) C dI_method_45 (by decide) (fun g8 => ?_) (fun g8 => ?_)
        · have h := h.1 g8
          refine x_aload_n C dI_method_50 rfl 0 rfl ?_
          refine gf_0_1 C (List.mem_cons_of_mem _ wm279) dI_method_51 ?_
          refine x_iload_n C dI_method_54 rfl 1 rfl ?_
          refine x_iload_n C dI_method_55 rfl 2 rfl ?_
          refine kK_setMethod C wm362 ⟨Nat.le_of_ble_eq_true rfl, Nat.le_of_ble_eq_true rfl⟩ (Nat.le_of_ble_eq_true rfl) dI_method_56 ⟨Nat.zero_le _, Nat.zero_le _⟩ h (fun r9 h => ?_)
          refine x_iconst (v := 1) C dI_method_59 (by decide) ?_
          exact x_iret C hA hlocks hr ⟨r9, rfl, h⟩ dI_method_60
        · have h := h.2 g8
          refine x_iconst (v := (-1)) C dI_method_48 (by decide) ?_
          exact x_iret C hA hlocks hr ⟨r, rfl, h⟩ dI_method_49
    · have h := h.2 g4
      refine x_iconst (v := (-1)) C dI_method_22 (by decide) ?_
      exact x_iret C hA hlocks hr ⟨r, rfl, h⟩ dI_method_23
set_option maxRecDepth 100000 in
set_option maxHeartbeats 4000000 in
theorem kI_method {p : Program} {l : Launch} {e : Env} {R : Room} {s : State} {m : MethodId} {args : Array Value} {below : List Frame} {meth : Method} {c : Code} {cells slots : Nat} {Q : State → Prop} {A : Nat → Prop} {D : va_G} {nL pc : Nat} {cc : ByteArray} {cw : Cond} {own : String} {lv : List (Nat × Value)} {st : List Value} {G : G_} {a : L_} {r : S_} {K : Int32 → S_ → Prop} {p0 : Int32} {p1 : Int32} (C : vx_C p s m args c cc nL (cw :: wAll) own D vwCl (tysG G) nwAll A) {i : Nat} (hl : Cond.methodLink own i yI_method ∈ wAll) (hR : 1 + 1 ≤ R.frames ∧ 8 + (3 + 11) + 22 ≤ R.locals) (hst : (st.map fun v => v.category).sum ≤ 8) (hd : decode cc pc = .ok (.invokevirtual i, 3)) (hcs : cells ≤ R.cells ∧ slots ≤ R.slots) (h : qI_method a K r p0 p1) (k : ∀ (v : Int32) (r1 : S_), K v r1 → vx_V p l e R s m args below meth c A D vwCl nL cells slots Q (wo G a r1) (pc + 3) lv (.int v :: st)) : vx_V p l e R s m args below meth c A D vwCl nL cells slots Q (wo G a r) pc lv (.int p1 :: .int p0 :: .ref (ob G 0) :: st) := by
  refine x_callVi C (CC := "ClassInference") (ci := 0) (q0 := 0) (fs := fl0 G a r) (As := [.int p0, .int p1]) rfl rfl (cI_method p0 p1 h) (cwV (C := "ClassInference") 2 C.1.2.2.2.2 (goodV hl wm351 wm352 wm1 wm353) rfl rfl rfl (by decide +kernel) hR) rfl hst hd hcs (fun v w hw => ?_)
  obtain ⟨r1, rfl, h⟩ := hw
  exact k v r1 h
def qK_areClasses (a : L_) (r : S_) (K : Int32 → Prop) (p0 : Int32) : Prop :=
  ((¬ ((p0.toUInt32 >>> ((fi r 2).toUInt32 &&& Int32.toUInt32 31)).toInt32) = 0) → zb 0 ∧ K 0) ∧ ((((p0.toUInt32 >>> ((fi r 2).toUInt32 &&& Int32.toUInt32 31)).toInt32) = 0) → zb 1 ∧ K 1)
set_option maxRecDepth 100000 in
set_option maxHeartbeats 4000000 in
theorem cK_areClasses {a : L_} {r : S_} {K : Int32 → Prop} (p0 : Int32) (h : qK_areClasses a r K p0) : vx_Mi l yK_areClasses (Cond.code yK_areClasses prog_2_method_3_code 2 (some .boolean) :: wAll) { frames := 0, cells := 0, slots := 0, locals := 0 } D vwCl (tysG G) nwAll (wo G a r) [.ref (ob G 2), .int p0] 0 0 (fun v w => w = wo G a r ∧ zb v ∧ K v) := by
  unfold qK_areClasses at h
  refine x_meti (cc := prog_2_method_3_code) (maxL := 2) (ret := (some .boolean)) (lv0 := [(0, .ref (ob G 2)), (1, .int p0)]) (by decide) rfl (Nat.le_of_ble_eq_true rfl) rfl ?_
  intro p e s m args below meth c A C hA hlocks hr
  refine x_iload_n C dK_areClasses_0 rfl 1 rfl ?_
  refine x_aload_n C dK_areClasses_1 rfl 0 rfl ?_
  refine gf_2_3 C (List.mem_cons_of_mem _ wm72) dK_areClasses_2 ?_
  refine x_iushr C dK_areClasses_5 rfl ?_
  refine x_if_ne (tgt := 13) C dK_areClasses_6 (by decide) (fun g1 => ?_) (fun g1 => ?_)
  · have h := h.1 g1
    refine x_iconst (v := 0) C dK_areClasses_13 (by decide) ?_
    obtain ⟨g2, h⟩ := h
    exact x_zret C hA hlocks hr (zb_n g2) ⟨rfl, g2, h⟩ dK_areClasses_14
  · have h := h.2 g1
    refine x_iconst (v := 1) C dK_areClasses_9 (by decide) ?_
    refine x_goto (tgt := 14) C dK_areClasses_10 (by decide) ?_
    obtain ⟨g3, h⟩ := h
    exact x_zret C hA hlocks hr (zb_n g3) ⟨rfl, g3, h⟩ dK_areClasses_14
set_option maxRecDepth 100000 in
set_option maxHeartbeats 4000000 in
theorem kK_areClasses {p : Program} {l : Launch} {e : Env} {R : Room} {s : State} {m : MethodId} {args : Array Value} {below : List Frame} {meth : Method} {c : Code} {cells slots : Nat} {Q : State → Prop} {A : Nat → Prop} {D : va_G} {nL pc : Nat} {cc : ByteArray} {cw : Cond} {own : String} {lv : List (Nat × Value)} {st : List Value} {G : G_} {a : L_} {r : S_} {K : Int32 → Prop} {p0 : Int32} (C : vx_C p s m args c cc nL (cw :: wAll) own D vwCl (tysG G) nwAll A) {i : Nat} (hl : Cond.methodLink own i yK_areClasses ∈ wAll) (hR : 0 + 1 ≤ R.frames ∧ 8 + (2 + 11) + 0 ≤ R.locals) (hst : (st.map fun v => v.category).sum ≤ 8) (hd : decode cc pc = .ok (.invokevirtual i, 3)) (hcs : cells ≤ R.cells ∧ slots ≤ R.slots) (h : qK_areClasses a r K p0) (k : ∀ (v : Int32), zb v → K v → vx_V p l e R s m args below meth c A D vwCl nL cells slots Q (wo G a r) (pc + 3) lv (.int v :: st)) : vx_V p l e R s m args below meth c A D vwCl nL cells slots Q (wo G a r) pc lv (.int p0 :: .ref (ob G 2) :: st) := by
  refine x_callVi C (CC := "ClassInference$ClassTable") (ci := 2) (q0 := 2) (fs := fl2 G a r) (As := [.int p0]) rfl rfl (cK_areClasses p0 h) (cwV (C := "ClassInference$ClassTable") 1 C.1.2.2.2.2 (goodV hl wm371 wm372 wm3 wm373) rfl rfl rfl (by decide +kernel) hR) rfl hst hd hcs (fun v w hw => ?_)
  obtain ⟨rfl, h⟩ := hw
  exact k v h.1 h.2
def qK_slot (a : L_) (r : S_) (K : Int32 → Prop) (p0 : Int32) (p1 : Int32) : Prop :=
  K ((p0 * 8) + p1)
set_option maxRecDepth 100000 in
set_option maxHeartbeats 4000000 in
theorem cK_slot {a : L_} {r : S_} {K : Int32 → Prop} (p0 : Int32) (p1 : Int32) (h : qK_slot a r K p0 p1) : vx_Mi l yK_slot (Cond.code yK_slot prog_2_method_9_code 2 (some .int) :: wAll) { frames := 0, cells := 0, slots := 0, locals := 0 } D vwCl (tysG G) nwAll (wo G a r) [.int p0, .int p1] 0 0 (fun v w => w = wo G a r ∧ K v) := by
  unfold qK_slot at h
  refine x_meti (cc := prog_2_method_9_code) (maxL := 2) (ret := (some .int)) (lv0 := [(0, .int p0), (1, .int p1)]) (by decide) rfl (Nat.le_of_ble_eq_true rfl) rfl ?_
  intro p e s m args below meth c A C hA hlocks hr
  refine x_iload_n C dK_slot_0 rfl 0 rfl ?_
  refine x_bipush (v := 8) C dK_slot_1 (by decide) ?_
  refine x_imul C dK_slot_3 ?_
  refine x_iload_n C dK_slot_4 rfl 1 rfl ?_
  refine x_iadd C dK_slot_5 ?_
  exact x_iret C hA hlocks hr ⟨rfl, h⟩ dK_slot_6
set_option maxRecDepth 100000 in
set_option maxHeartbeats 4000000 in
theorem kK_slot {p : Program} {l : Launch} {e : Env} {R : Room} {s : State} {m : MethodId} {args : Array Value} {below : List Frame} {meth : Method} {c : Code} {cells slots : Nat} {Q : State → Prop} {A : Nat → Prop} {D : va_G} {nL pc : Nat} {cc : ByteArray} {cw : Cond} {own : String} {lv : List (Nat × Value)} {st : List Value} {G : G_} {a : L_} {r : S_} {K : Int32 → Prop} {p0 : Int32} {p1 : Int32} (C : vx_C p s m args c cc nL (cw :: wAll) own D vwCl (tysG G) nwAll A) {i : Nat} (hl : Cond.methodLink own i yK_slot ∈ wAll) (hR : 0 + 1 ≤ R.frames ∧ 8 + (2 + 11) + 0 ≤ R.locals) (hst : (st.map fun v => v.category).sum ≤ 8) (hd : decode cc pc = .ok (.invokestatic i, 3)) (hcs : cells ≤ R.cells ∧ slots ≤ R.slots) (h : qK_slot a r K p0 p1) (k : ∀ (v : Int32), K v → vx_V p l e R s m args below meth c A D vwCl nL cells slots Q (wo G a r) (pc + 3) lv (.int v :: st)) : vx_V p l e R s m args below meth c A D vwCl nL cells slots Q (wo G a r) pc lv (.int p1 :: .int p0 :: st) := by
  refine x_callSi C (As := [.int p0, .int p1]) (cK_slot p0 p1 h) (va_cwS 2 C.1.2.2.2.2 (goodS hl wm383 wm3 wm384) rfl rfl rfl (by decide +kernel) hR) rfl hst hd hcs (fun v w hw => ?_)
  obtain ⟨rfl, h⟩ := hw
  exact k v h
def qK_reaches_J33 (a : L_) (r : S_) (KB5 : Int32 → Int32 → Int32 → Int32 → Prop) (KX39 : Int32 → Int32 → Prop) (v1 : Int32) (v2 : Int32) (v3 : Int32) (v4 : Int32) : Prop :=
  KB5 v1 v2 v3 (v4 + 1)
set_option maxRecDepth 100000 in
set_option maxHeartbeats 4000000 in
theorem tK_reaches_J33 (C : vx_C p s m args c prog_2_method_10_code 5 (Cond.code yK_reaches prog_2_method_10_code 5 (some .boolean) :: wAll) "ClassInference$ClassTable" D vwCl (tysG G) nwAll A) {a : L_} {r : S_} {KB5 : Int32 → Int32 → Int32 → Int32 → Prop} {KX39 : Int32 → Int32 → Prop} (kB5 : ∀ (v1 : Int32) (v2 : Int32) (v3 : Int32) (v4 : Int32), KB5 v1 v2 v3 v4 → vx_V p l e { frames := 0, cells := 0, slots := 0, locals := 0 } s m args below meth c A D vwCl 5 0 0 Q (wo G a r) 5 [(0, .ref (ob G 2)), (1, .int v1), (2, .int v2), (3, .int v3), (4, .int v4)] []) (kX39 : ∀ (v2 : Int32) (v3 : Int32), KX39 v2 v3 → vx_V p l e { frames := 0, cells := 0, slots := 0, locals := 0 } s m args below meth c A D vwCl 5 0 0 Q (wo G a r) 39 [(2, .int v2), (3, .int v3)] []) (v1 : Int32) (v2 : Int32) (v3 : Int32) (v4 : Int32) (h : qK_reaches_J33 a r KB5 KX39 v1 v2 v3 v4) : vx_V p l e { frames := 0, cells := 0, slots := 0, locals := 0 } s m args below meth c A D vwCl 5 0 0 Q (wo G a r) 33 [(0, .ref (ob G 2)), (1, .int v1), (2, .int v2), (3, .int v3), (4, .int v4)] [] := by
  unfold qK_reaches_J33 at h
  refine x_iinc (j := 4) (v := v4 + 1) C [(4, .int (v4 + 1)), (0, .ref (ob G 2)), (1, .int v1), (2, .int v2), (3, .int v3)] dK_reaches_33 rfl rfl (by decide) rfl ?_
  refine x_goto (tgt := 5) C dK_reaches_36 (by decide) ?_
  refine x_sub [1, 2, 3, 4, 0] rfl ?_
  exact kB5 v1 v2 v3 (v4 + 1) h
def qK_reaches_L5 (a : L_) (r : S_) (KX39 : Int32 → Int32 → Prop) : Nat → Int32 → Int32 → Int32 → Int32 → Prop
  | 0, _, _, _, _ => False
  | n + 1, v1, v2, v3, v4 => (((fi r 2) ≤ v4) → KX39 v2 v3) ∧ ((¬ (fi r 2) ≤ v4) → (((v1 &&& (1 <<< (v4 &&& 31))) = 0) → qK_reaches_J33 a r (qK_reaches_L5 a r KX39 n) KX39 v1 v2 v3 v4) ∧ ((¬ (v1 &&& (1 <<< (v4 &&& 31))) = 0) → vp_in v4 (ln a 7) ∧ qK_reaches_J33 a r (qK_reaches_L5 a r KX39 n) KX39 v1 v2 (v3 ||| (ar r 7 v4.toNatClampNeg)) v4))
set_option maxRecDepth 100000 in
set_option maxHeartbeats 4000000 in
theorem tK_reaches_L5 (C : vx_C p s m args c prog_2_method_10_code 5 (Cond.code yK_reaches prog_2_method_10_code 5 (some .boolean) :: wAll) "ClassInference$ClassTable" D vwCl (tysG G) nwAll A) {a : L_} {r : S_} {KX39 : Int32 → Int32 → Prop} (kX39 : ∀ (v2 : Int32) (v3 : Int32), KX39 v2 v3 → vx_V p l e { frames := 0, cells := 0, slots := 0, locals := 0 } s m args below meth c A D vwCl 5 0 0 Q (wo G a r) 39 [(2, .int v2), (3, .int v3)] []) : ∀ (n : Nat) (v1 : Int32) (v2 : Int32) (v3 : Int32) (v4 : Int32), qK_reaches_L5 a r KX39 n v1 v2 v3 v4 → vx_V p l e { frames := 0, cells := 0, slots := 0, locals := 0 } s m args below meth c A D vwCl 5 0 0 Q (wo G a r) 5 [(0, .ref (ob G 2)), (1, .int v1), (2, .int v2), (3, .int v3), (4, .int v4)] [] := by
  intro n
  induction n with
  | zero =>
    intro v1 v2 v3 v4 h
    exact (by rw [qK_reaches_L5] at h; exact h : False).elim
  | succ n kB5 =>
    intro v1 v2 v3 v4 h
    rw [qK_reaches_L5] at h
    refine x_iload C dK_reaches_5 4 rfl ?_
    refine x_aload_n C dK_reaches_7 rfl 0 rfl ?_
    refine gf_2_3 C (List.mem_cons_of_mem _ wm72) dK_reaches_8 ?_
    refine x_icmp_ge (tgt := 39) C dK_reaches_11 (by decide) (fun g1 => ?_) (fun g1 => ?_)
    · have h := h.1 g1
      refine x_sub [2, 3] rfl ?_
      exact kX39 v2 v3 h
    · have h := h.2 g1
      refine x_iload_n C dK_reaches_14 rfl 1 rfl ?_
      refine x_iconst (v := 1) C dK_reaches_15 (by decide) ?_
      refine x_iload C dK_reaches_16 4 rfl ?_
      refine x_ishl C dK_reaches_18 ?_
      refine x_iand C dK_reaches_19 ?_
      refine x_if_eq (tgt := 33) C dK_reaches_20 (by decide) (fun g2 => ?_) (fun g2 => ?_)
      · have h := h.1 g2
        refine x_sub [0, 1, 2, 3, 4] rfl ?_
        exact tK_reaches_J33 C kB5 kX39 v1 v2 v3 v4 h
      · have h := h.2 g2
        refine x_iload_n C dK_reaches_23 rfl 3 rfl ?_
        refine x_aload_n C dK_reaches_24 rfl 0 rfl ?_
        refine gf_2_1 C (List.mem_cons_of_mem _ wm70) dK_reaches_25 ?_
        refine x_iload C dK_reaches_28 4 rfl ?_
        obtain ⟨g3, h⟩ := h
        refine y_ia C 7 (by decide) g3 dK_reaches_30 ?_
        refine x_ior C dK_reaches_31 ?_
        refine x_istore_n C [(3, .int (v3 ||| (ar r 7 v4.toNatClampNeg))), (0, .ref (ob G 2)), (1, .int v1), (2, .int v2), (4, .int v4)] dK_reaches_32 rfl (by decide) rfl ?_
        refine x_sub [1, 2, 3, 0, 4] rfl ?_
        exact tK_reaches_J33 C kB5 kX39 v1 v2 (v3 ||| (ar r 7 v4.toNatClampNeg)) v4 h
def qK_reaches (a : L_) (r : S_) (K : Int32 → Prop) (p0 : Int32) (p1 : Int32) : Prop :=
  ∃ n7 : Nat, qK_reaches_L5 a r (fun v2 v3 => ((¬ (v2 &&& (v3 ^^^ (-1))) = 0) → zb 0 ∧ K 0) ∧ (((v2 &&& (v3 ^^^ (-1))) = 0) → zb 1 ∧ K 1)) n7 p0 p1 0 0
set_option maxRecDepth 100000 in
set_option maxHeartbeats 4000000 in
theorem cK_reaches {a : L_} {r : S_} {K : Int32 → Prop} (p0 : Int32) (p1 : Int32) (h : qK_reaches a r K p0 p1) : vx_Mi l yK_reaches (Cond.code yK_reaches prog_2_method_10_code 5 (some .boolean) :: wAll) { frames := 0, cells := 0, slots := 0, locals := 0 } D vwCl (tysG G) nwAll (wo G a r) [.ref (ob G 2), .int p0, .int p1] 0 0 (fun v w => w = wo G a r ∧ zb v ∧ K v) := by
  unfold qK_reaches at h
  refine x_meti (cc := prog_2_method_10_code) (maxL := 5) (ret := (some .boolean)) (lv0 := [(0, .ref (ob G 2)), (1, .int p0), (2, .int p1)]) (by decide) rfl (Nat.le_of_ble_eq_true rfl) rfl ?_
  intro p e s m args below meth c A C hA hlocks hr
  refine x_iconst (v := 0) C dK_reaches_0 (by decide) ?_
  refine x_istore_n C [(3, .int 0), (0, .ref (ob G 2)), (1, .int p0), (2, .int p1)] dK_reaches_1 rfl (by decide) rfl ?_
  refine x_iconst (v := 0) C dK_reaches_2 (by decide) ?_
  refine x_istore C [(4, .int 0), (3, .int 0), (0, .ref (ob G 2)), (1, .int p0), (2, .int p1)] dK_reaches_3 (by decide) rfl ?_
  obtain ⟨n7, h⟩ := h
  refine x_sub [2, 3, 4, 1, 0] rfl ?_
  refine tK_reaches_L5 C (fun v2 v3 h => ?_) n7 p0 p1 0 0 h
  · refine x_iload_n C dK_reaches_39 rfl 0 rfl ?_
    refine x_iload_n C dK_reaches_40 rfl 1 rfl ?_
    refine x_iconst (v := (-1)) C dK_reaches_41 (by decide) ?_
    refine x_ixor C dK_reaches_42 ?_
    refine x_iand C dK_reaches_43 ?_
    refine x_if_ne (tgt := 51) C dK_reaches_44 (by decide) (fun g4 => ?_) (fun g4 => ?_)
    · have h := h.1 g4
      refine x_iconst (v := 0) C dK_reaches_51 (by decide) ?_
      obtain ⟨g5, h⟩ := h
      exact x_zret C hA hlocks hr (zb_n g5) ⟨rfl, g5, h⟩ dK_reaches_52
    · have h := h.2 g4
      refine x_iconst (v := 1) C dK_reaches_47 (by decide) ?_
      refine x_goto (tgt := 52) C dK_reaches_48 (by decide) ?_
      obtain ⟨g6, h⟩ := h
      exact x_zret C hA hlocks hr (zb_n g6) ⟨rfl, g6, h⟩ dK_reaches_52
set_option maxRecDepth 100000 in
set_option maxHeartbeats 4000000 in
theorem kK_reaches {p : Program} {l : Launch} {e : Env} {R : Room} {s : State} {m : MethodId} {args : Array Value} {below : List Frame} {meth : Method} {c : Code} {cells slots : Nat} {Q : State → Prop} {A : Nat → Prop} {D : va_G} {nL pc : Nat} {cc : ByteArray} {cw : Cond} {own : String} {lv : List (Nat × Value)} {st : List Value} {G : G_} {a : L_} {r : S_} {K : Int32 → Prop} {p0 : Int32} {p1 : Int32} (C : vx_C p s m args c cc nL (cw :: wAll) own D vwCl (tysG G) nwAll A) {i : Nat} (hl : Cond.methodLink own i yK_reaches ∈ wAll) (hR : 0 + 1 ≤ R.frames ∧ 8 + (5 + 11) + 0 ≤ R.locals) (hst : (st.map fun v => v.category).sum ≤ 8) (hd : decode cc pc = .ok (.invokevirtual i, 3)) (hcs : cells ≤ R.cells ∧ slots ≤ R.slots) (h : qK_reaches a r K p0 p1) (k : ∀ (v : Int32), zb v → K v → vx_V p l e R s m args below meth c A D vwCl nL cells slots Q (wo G a r) (pc + 3) lv (.int v :: st)) : vx_V p l e R s m args below meth c A D vwCl nL cells slots Q (wo G a r) pc lv (.int p1 :: .int p0 :: .ref (ob G 2) :: st) := by
  refine x_callVi C (CC := "ClassInference$ClassTable") (ci := 2) (q0 := 2) (fs := fl2 G a r) (As := [.int p0, .int p1]) rfl rfl (cK_reaches p0 p1 h) (cwV (C := "ClassInference$ClassTable") 2 C.1.2.2.2.2 (goodV hl wm386 wm387 wm3 wm388) rfl rfl rfl (by decide +kernel) hR) rfl hst hd hcs (fun v w hw => ?_)
  obtain ⟨rfl, h⟩ := hw
  exact k v h.1 h.2
end MTH
